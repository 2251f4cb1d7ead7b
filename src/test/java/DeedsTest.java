/** Promises 9 to 15: swaps, nights, the clue, undoing, deeds in trays, years. */
public final class DeedsTest {
    private static final String DESK =
            "desk drawers 4 opens 2;name 0 1;name 1 2;name 2 3;name 3 0;night 0 1;night 1 2;night 2 0;clue 5;";

    private DeedsTest() {
    }

    public static void main(String[] args) {
        swap();
        nights();
        clue();
        undo();
        eldestForgotten();
        judge();
        perform();
        year();
        yearThatDidNothing();
        yearOfOne();
        Checks.end();
    }

    private static void row(DrawerNames x, int... names) {
        for (int d = 0; d < names.length; d++) {
            Checks.due("drawer " + d, x.drawer(d, 0), names[d]);
        }
    }

    private static void swap() {
        DrawerNames x = Checks.at(DESK);
        Checks.due("two rounds of two", x.swap(0, 2), 4);
        row(x, 3, 2, 1, 0);
        Checks.due("one such", x.swap(2, 2), -11);
        Checks.due("no such", x.swap(0, 4), -11);
        Checks.due("no such", x.swap(-1, 0), -11);
        Checks.due("no such", x.swap(Integer.MIN_VALUE, Integer.MAX_VALUE), -11);
        Checks.due("one can be undone", x.count(5), 1);
        Checks.due("back", x.swap(2, 0), 0);
    }

    private static void nights() {
        DrawerNames x = Checks.at(DESK);
        Checks.due("one night", x.nights(1), 4);
        row(x, 3, 1, 2, 0);
        Checks.due("two nights", x.nights(2), 0);
        row(x, 1, 2, 3, 0);
        Checks.due("nights", x.count(3), 3);
        Checks.due("none", x.nights(0), -3);
        Checks.due("too many", x.nights(100), -3);
        x.nights(99);
        row(x, 1, 2, 3, 0);
        Checks.due("nights", x.count(3), 102);
    }

    private static void clue() {
        DrawerNames x = Checks.at(DESK);
        Checks.due("was 5", x.clue(0), 5);
        Checks.due("was 0", x.clue(9), 0);
        Checks.due("was 9", x.clue(9), 9);
        Checks.due("three calls", x.count(5), 3);
        Checks.due("no such", x.clue(10), -11);
        Checks.due("no such", x.clue(-1), -11);
        Checks.due("still 9", x.count(2), 9);
    }

    private static void undo() {
        DrawerNames x = Checks.at(DESK);
        Checks.due("none", x.undo(1), -3);
        x.swap(0, 1);
        x.nights(7);
        x.clue(1);
        Checks.due("0", x.undo(0), -3);
        Checks.due("more than can be", x.undo(4), -3);
        Checks.due("below 0", x.undo(-1), -3);
        Checks.due("the clue", x.undo(1), 2);
        Checks.due("clue", x.count(2), 5);
        Checks.due("nights stay", x.count(3), 7);
        Checks.due("the rest", x.undo(2), 0);
        Checks.due("nights", x.count(3), 0);
        row(x, 1, 2, 3, 0);
        Checks.due("none left", x.undo(1), -3);
    }

    private static void eldestForgotten() {
        DrawerNames x = Checks.at(DESK);
        for (int i = 0; i < 12; i++) {
            x.clue(i % 10);
            Checks.due("can be undone", x.count(5), Math.min(i + 1, 10));
        }
        Checks.due("11", x.undo(11), -3);
        Checks.due("10", x.undo(10), 0);
        Checks.due("behind the second", x.count(2), 1);
        x.swap(0, 1);
        Checks.due("one again", x.undo(1), 0);
        for (int i = 0; i < 25; i++) {
            x.clue(i % 10);
        }
        for (int i = 23; i >= 14; i--) {
            Checks.due("one by one", x.undo(1), i - 14);
            Checks.due("one by one, clue", x.count(2), i % 10);
        }
    }

    private static void judge() {
        DrawerNames x = Checks.at(DESK);
        Checks.due("missing", x.judge(0, 0), -6);
        Checks.due("no such tray", x.judge(4, 0), -2);
        Checks.due("no such what, ahead of missing", x.judge(0, 4), -2);
        Checks.due("no such what", x.judge(0, -1), -2);
        Checks.fill(x, 0, 0, 0, 15, 102);
        Checks.due("all can be", x.judge(0, 0), -1);
        Checks.due("no why", x.judge(0, 1), 0);
        Checks.due("2 1 3 0", x.judge(0, 2), 15);
        Checks.due("let off", x.judge(0, 3), 2);
        Checks.due("nothing was done", x.count(5), 0);
        Checks.due("nothing was done", x.lies(0), 9);
        Checks.fill(x, 1, 1, 102, 104, 0);
        Checks.due("no drawer 4", x.judge(1, 0), 1);
        Checks.due("why", x.judge(1, 1), 1);
        Checks.due("as behind the first", x.judge(1, 2), 23);
        Checks.due("as behind the first", x.judge(1, 3), 15);
        long[] never = {-1, 1, 9, 20, 99, 100, 111, 140, 199, 200, 1L << 32, (1L << 32) + 101, 65637, -155, -256, Long.MIN_VALUE};
        for (long deed : never) {
            Checks.fill(x, 2, 3, deed);
            Checks.due("deed " + deed, x.judge(2, 0), 0);
            Checks.due("done of " + deed, x.perform(2), 0);
        }
        Checks.fill(x, 3, 2);
        Checks.due("no deeds", x.judge(3, 0), -1);
        Checks.due("no deeds", x.judge(3, 2), 9);
    }

    private static void perform() {
        DrawerNames x = Checks.at(DESK);
        Checks.due("missing", x.perform(3), -6);
        Checks.due("no such", x.perform(4), -2);
        Checks.due("no such", x.perform(-1), -2);
        Checks.fill(x, 0, 1, 0, 19, 132, 100, 0);
        Checks.due("till 100", x.perform(0), 3);
        row(x, 3, 1, 0, 2);
        Checks.due("nights", x.count(3), 1);
        Checks.due("clue", x.count(2), 9);
        Checks.due("one call", x.count(5), 1);
        Checks.due("undone as a whole", x.undo(1), 0);
        row(x, 1, 2, 3, 0);
        Checks.due("nights", x.count(3), 0);
        Checks.due("clue", x.count(2), 5);
        Checks.fill(x, 0, 1, 101, 7);
        Checks.due("one", x.perform(0), 1);
        Checks.due("one to undo", x.undo(1), 0);
        Checks.fill(x, 0, 1, 7);
        Checks.due("none", x.perform(0), 0);
        Checks.due("nothing to undo", x.count(5), 0);
        Checks.fill(x, 0, 1);
        Checks.due("none", x.perform(0), 0);
        Checks.due("nothing to undo", x.count(5), 0);
    }

    private static int seed;

    private static int draw() {
        seed = 1103515245 * seed + 12345;
        return seed >>> 16;
    }

    private static void year() {
        DrawerNames x = Checks.at(DESK);
        Checks.due("no times", x.year(1, 0), -3);
        Checks.due("too many times", x.year(1, 41), -3);
        for (int s = -40; s < 40; s++) {
            oneYear(s * 77777777, 1 + Math.floorMod(s, 40));
        }
    }

    /** A year call by call on the one desk, at once on another. */
    private static void oneYear(int from, int times) {
        DrawerNames x = Checks.at(DESK);
        DrawerNames y = Checks.at(DESK);
        seed = from;
        int could = 0;
        for (int i = 0; i < times; i++) {
            int kind = draw() % 4;
            int answer;
            if (kind < 2) {
                answer = x.nights(1);
            } else if (kind == 2) {
                answer = x.clue(draw() % 10);
            } else {
                int d = draw() % 6;
                answer = x.swap(d, draw() % 6);
            }
            could += answer < 0 ? 0 : 1;
        }
        Checks.due("year " + from, y.year(from, times), could);
        Checks.due("row", y.lies(0), x.lies(0));
        Checks.due("clue", y.count(2), x.count(2));
        Checks.due("nights", y.count(3), x.count(3));
        Checks.due("one call", y.count(5), could > 0 ? 1 : 0);
        if (could > 0) {
            Checks.due("undone", y.undo(1), 0);
            Checks.due("row", y.lies(0), 9);
        }
    }

    /** Only one deed of these could be: a night behind a swap that can't be. */
    private static void yearOfOne() {
        DrawerNames x = new DrawerNames();
        for (int s = 0; s < 1000; s++) {
            seed = s;
            boolean swapFirst = draw() % 4 == 3;
            draw();
            draw();
            if (swapFirst && draw() % 4 < 2) {
                Checks.due("the night could be", x.year(s, 2), 1);
                Checks.due("one call", x.count(5), 1);
                Checks.due("one night", x.count(3), 1);
                return;
            }
        }
        Checks.holds("a seed", false);
    }

    /** With one drawer no swap can be. */
    private static void yearThatDidNothing() {
        DrawerNames x = new DrawerNames();
        int s = 0;
        while (true) {
            seed = s;
            if (draw() % 4 == 3) {
                break;
            }
            s++;
        }
        Checks.due("nothing could be", x.year(s, 1), 0);
        Checks.due("nothing to undo", x.count(5), 0);
    }
}
