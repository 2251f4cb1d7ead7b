/** Promises 31 to 34: what can lie where by what one found, what the clue is. */
public final class FoundTest {
    private static final String FOUR = "desk drawers 4 opens 3;";

    private FoundTest() {
    }

    public static void main(String[] args) {
        refusals();
        cluesRefusals();
        found();
        names();
        look();
        byLaws();
        clues();
        cluesByNight();
        Checks.end();
    }

    private static void refusals() {
        DrawerNames x = Checks.at(FOUR);
        int[][] none = {{4, 0, 0}, {-1, 0, 0}, {0, 4, 0}, {0, -1, 0}};
        for (int[] a : none) {
            Checks.due("found: none such", x.found(a[0], a[1]), -2);
            Checks.due("look: none such", x.look(a[0], a[1]), -2);
            Checks.due("names: none such", x.names(a[0], a[1], 0), -2);
        }
        Checks.due("names: no such drawer", x.names(0, 0, 4), -2);
        Checks.due("names: no such drawer", x.names(0, 0, -1), -2);
        refused(x, -6);
        Checks.fill(x, 0, 3);
        refused(x, -4);
        Checks.fill(x, 0, 3, 9, 9, 9, 9, 9, 9, 9, 9, 9);
        refused(x, -4);
        Checks.fill(x, 0, 3, 0, 4);
        refused(x, -3);
        Checks.fill(x, 0, 3, -2);
        refused(x, -3);
        Checks.fill(x, 0, 3, 1L << 32);
        refused(x, -3);
        Checks.fill(x, 0, 0, 255);
        Checks.due("cut to -1: not known", x.found(0, 0), 24);
    }

    private static void refused(DrawerNames x, int code) {
        Checks.due("found", x.found(0, 0), code);
        Checks.due("names", x.names(0, 0, 0), code);
        Checks.due("look", x.look(0, 0), code);
    }

    private static void cluesRefusals() {
        DrawerNames x = Checks.at(FOUR);
        Checks.due("none such", x.clues(4), -2);
        Checks.due("none such", x.clues(-1), -2);
        Checks.due("missing", x.clues(0), -6);
        Checks.fill(x, 0, 3);
        Checks.due("none", x.clues(0), -4);
        Checks.fill(x, 0, 3, 99, 0, 0, 0, 0, 0, 0, 0, 0);
        Checks.due("nine", x.clues(0), -4);
        Checks.fill(x, 0, 3, 15, 16);
        Checks.due("no set", x.clues(0), -3);
        Checks.fill(x, 0, 3, -1);
        Checks.due("no set", x.clues(0), -3);
        Checks.fill(x, 0, 3, 1L << 40);
        Checks.due("no set", x.clues(0), -3);
    }

    private static void found() {
        DrawerNames x = Checks.at(FOUR);
        Checks.fill(x, 0, 1, 1);
        Checks.due("1 in 0", x.found(0, 0), 6);
        Checks.fill(x, 0, 1, 0);
        Checks.due("0 in 0", x.found(0, 0), 6);
        Checks.fill(x, 0, 1, 0, -1);
        Checks.due("found, so no more are opened", x.found(0, 0), 0);
        Checks.fill(x, 0, 1, -1, -1);
        Checks.due("two are opened", x.found(0, 0), 18);
        Checks.fill(x, 0, 1, -1, -1, -1);
        Checks.due("three are opened", x.found(0, 0), 12);
        Checks.fill(x, 0, 1, -1, -1, -1, -1);
        Checks.due("four never", x.found(0, 0), 0);
        Checks.due("none", x.names(0, 0, 0), 0);
        Checks.due("none", x.look(0, 0), -1);
        Checks.fill(x, 0, 1, 1, 2, 3);
        Checks.due("all is known", x.found(0, 0), 1);
        Checks.fill(x, 0, 1, 1, -1, 0);
        Checks.due("of 2 or 3", x.found(0, 0), 2);
        Checks.fill(x, 0, 1, 1, 1);
        Checks.due("can't be", x.found(0, 0), 0);
    }

    private static void names() {
        DrawerNames x = Checks.at(FOUR);
        Checks.fill(x, 2, 1, 1, -1, 0);
        int[] bits = {2, 12, 5, 9};
        for (int d = 0; d < 4; d++) {
            Checks.due("in " + d, x.names(2, 0, d), bits[d]);
        }
        Checks.fill(x, 2, 1, 3);
        int[] others = {7, 8, 7, 7};
        for (int d = 0; d < 4; d++) {
            Checks.due("in " + d, x.names(2, 1, d), others[d]);
        }
    }

    private static void look() {
        DrawerNames x = Checks.at(FOUR);
        Checks.fill(x, 1, 1, 1);
        Checks.due("the first not known", x.look(1, 0), 1);
        Checks.fill(x, 1, 1, 2);
        Checks.due("the first not known", x.look(1, 0), 1);
        Checks.fill(x, 1, 1, -1);
        Checks.due("all alike", x.look(1, 0), 0);
        Checks.fill(x, 1, 1, 1, 2, 3);
        Checks.due("all known", x.look(1, 0), 0);
        Checks.fill(x, 1, 1, 1, -1, 0);
        Checks.due("1 is known", x.look(1, 0), 1);
        Checks.tell(x, "desk drawers 4 opens 3;next : if tries = 0 then 0 else 1 end;");
        Checks.fill(x, 1, 1, 2, 3);
        Checks.due("0 and 1 are known", x.look(1, 0), 2);
        Checks.due("by drawers 0 and 1", x.names(1, 0, 3), 3);
    }

    private static void byLaws() {
        DrawerNames x = Checks.at("desk drawers 3 opens 9;next : me + clue;stops : tries = 3;");
        Checks.fill(x, 0, 1, 1, 1, 1);
        Checks.due("the same drawer three times", x.found(0, 0), 2);
        Checks.fill(x, 0, 1, 1, 1, 1, 1);
        Checks.due("then it gives up", x.found(0, 0), 0);
        Checks.fill(x, 0, 1, 1, 2);
        Checks.due("it can't change", x.found(0, 0), 0);
        Checks.fill(x, 0, 1, 2, -1, 2);
        x.clue(2);
        Checks.due("now drawer 2", x.names(0, 0, 2), 4);
        Checks.due("now drawer 2", x.names(0, 0, 0), 3);
    }

    private static void clues() {
        DrawerNames x = Checks.at("desk drawers 4 opens 1;next : found + clue;clue 6;name 0 1;name 1 0;");
        Checks.fill(x, 0, 1, 12);
        Checks.due("two at home", x.clues(0), 1 | 1 << 4 | 1 << 8);
        Checks.fill(x, 0, 1, 1);
        Checks.due("0 by the next", x.clues(0), 1 << 1 | 1 << 5 | 1 << 9);
        Checks.fill(x, 0, 1, 15);
        Checks.due("never", x.clues(0), 0);
        Checks.due("the clue stays", x.count(2), 6);
        Checks.due("nights stay", x.count(3), 0);
    }

    /** The first number is behind one night, the second behind two. */
    private static void cluesByNight() {
        DrawerNames x = Checks.at("desk drawers 2 opens 1;next : found + clue;night 0 1;night 1 0;");
        Checks.fill(x, 0, 1, 0);
        Checks.due("swapped: nobody at home", x.clues(0), 341);
        Checks.fill(x, 0, 1, 3);
        Checks.due("swapped: all by the other one", x.clues(0), 682);
        Checks.fill(x, 0, 1, 3, 0, 3);
        Checks.due("three nights", x.clues(0), 682);
        Checks.fill(x, 0, 1, 0, 3, 0, 3, 0, 3, 0, 3);
        Checks.due("eight nights", x.clues(0), 341);
        Checks.fill(x, 0, 1, 0, 0);
        Checks.due("never", x.clues(0), 0);
    }
}
