import java.util.ArrayList;
import java.util.List;

/** Sentences of the terms about refused calls: their codes, that they change nothing, which code comes first. */
final class RefusedSentences {
    private static final long FAR = 1000000000000000L;

    private RefusedSentences() {
    }

    /** One call upon an object. */
    private interface Call {
        long on(DrawerNames x);
    }

    static void all() {
        Sentence.terms(3, "Refused calls answer by a code and change nothing:");
        refused(-2, x -> x.visit(4, 1));
        refused(-3, x -> x.nights(100));
        refused(-4, x -> x.clues(2));
        refused(-5, x -> x.restore(1));
        refused(-6, x -> x.perform(3));
        refused(-7, x -> x.write(0, 3, 7));
        refused(-11, x -> x.swap(4, 0));

        Sentence.terms(3, "-2 there is none such;");
        refused(-2, noneSuch());

        Sentence.terms(3, "-3 a number can't be;");
        refused(-3, cantBe());

        Sentence.terms(3, "-4 too many;");
        refused(-4, x -> x.found(2, 0), x -> x.names(2, 0, 0), x -> x.look(2, 0), x -> x.clues(2));

        notNow();

        Sentence.terms(3, "-6 a TRAY is MISSING;");
        refused(-6, x -> x.judge(3, 0), x -> x.perform(3), x -> x.found(3, 0), x -> x.names(3, 0, 0), x -> x.look(3, 0),
                x -> x.clues(3), x -> x.write(3, 0, 0), x -> x.lists(3, 0));

        Sentence.terms(3, "-7 it has no such number;");
        refused(-7, x -> x.write(0, -1, 0), x -> x.write(0, 3, 0), x -> x.write(2, 40, 0));

        Sentence.terms(3, "-11 why not;");
        refused(-11, x -> x.swap(0, 0), x -> x.swap(0, 4), x -> x.swap(-1, 0), x -> x.clue(-1), x -> x.clue(10));

        faultCodes();
        firstTold();
        aheadOfNone();
    }

    private static Call[] noneSuch() {
        return new Call[] {x -> x.drawer(4, 0), x -> x.drawer(0, 2), x -> x.visit(4, 0), x -> x.visit(0, 2), x -> x.opened(4, 0),
            x -> x.judge(4, 0), x -> x.judge(0, 4), x -> x.perform(4), x -> x.lies(6), x -> x.round(4, 0), x -> x.round(0, 2),
            x -> x.fewest(2), x -> x.way(2, 0), x -> x.rows(2, 0), x -> x.ofAll(2), x -> x.ofOne(4), x -> x.first(2),
            x -> x.often(2, 0), x -> x.found(4, 0), x -> x.found(1, 4), x -> x.names(1, 0, 4), x -> x.look(1, 4), x -> x.clues(4),
            x -> x.forces(2), x -> x.best(2), x -> x.chance(2, 0, 0), x -> x.chance(0, 0, 2), x -> x.mean(0, 2),
            x -> x.numbers(4, 0, 0), x -> x.numbers(0, 4, 0), x -> x.write(4, 0, 0), x -> x.lists(4, 0), x -> x.image(2),
            x -> x.restore(2)};
    }

    private static Call[] cantBe() {
        return new Call[] {x -> x.desk(41), x -> x.desk(-1), x -> x.opened(0, -1), x -> x.nights(0), x -> x.nights(100),
            x -> x.undo(0), x -> x.undo(4), x -> x.undo(11), x -> x.year(0, 0), x -> x.year(0, 41), x -> x.power(-1),
            x -> x.power(FAR + 1), x -> x.roots(0), x -> x.roots(10), x -> x.bounded(0, 1), x -> x.bounded(1, 0), x -> x.bounded(21, 1),
            x -> x.bounded(1, 21), x -> x.way(0, -1), x -> x.rows(0, -1), x -> x.rows(0, 8), x -> x.just(-1), x -> x.at(-1),
            x -> x.at(FAR + 1), x -> x.often(0, -1), x -> x.often(0, FAR + 1), x -> x.found(0, 0), x -> x.names(0, 0, 0),
            x -> x.look(0, 0), x -> x.clues(1), x -> x.chance(0, -1, 0), x -> x.chance(0, 8, 0), x -> x.mean(-1, 0),
            x -> x.mean(8, 0), x -> x.numbers(0, 0, -1), x -> x.numbers(0, 0, 41), x -> x.lists(0, -1), x -> x.lists(0, 24)};
    }

    /** Each of the calls answers the code, and all is as without it. */
    private static void refused(int code, Call... calls) {
        long[] due = toldBy(full());
        for (int i = 0; i < calls.length; i++) {
            DrawerNames x = full();
            Checks.due("call " + i, calls[i].on(x), code);
            same("behind call " + i, toldBy(x), due);
        }
    }

    private static void same(String words, long[] got, long[] due) {
        Checks.due(words + ", answers", got.length, due.length);
        for (int i = 0; i < due.length && i < got.length; i++) {
            Checks.due(words + ", answer " + i, got[i], due[i]);
        }
    }

    /** Four drawers, three calls to undo, image 0, trays 0 to 2, a text on the tape. */
    private static DrawerNames full() {
        DrawerNames x = Checks.at("desk drawers 4 opens 2;name 0 1;name 1 2;name 2 3;name 3 0;night 0 1;night 1 2;night 2 0;clue 5;"
                + "next:found+clue;stops:tries=3;");
        x.nights(2);
        x.image(0);
        x.swap(0, 1);
        x.clue(2);
        Checks.fill(x, 0, 1, 0, 112, 101);
        Checks.fill(x, 1, 3, 1, -1);
        x.numbers(2, 0, 0);
        Checks.feed(x, "desk drawers 2 opens 1;clue 7;");
        return x;
    }

    /** All that can be asked of it; it is used up by that. */
    private static long[] toldBy(DrawerNames x) {
        List<Long> told = new ArrayList<>();
        askAll(x, told);
        for (int i = 0; i < 4; i++) {
            told.add((long) x.undo(1));
            askAll(x, told);
        }
        for (int i = 0; i < 2; i++) {
            told.add((long) x.restore(i));
            askAll(x, told);
        }
        told.add((long) x.desk(30));
        askAll(x, told);
        return told.stream().mapToLong(Long::longValue).toArray();
    }

    private static void askAll(DrawerNames x, List<Long> told) {
        for (int what = 0; what < 9; what++) {
            told.add((long) x.count(what));
        }
        for (int what = 0; what < 2; what++) {
            told.add((long) x.fault(what));
        }
        for (int d = 0; d < 4; d++) {
            told.add((long) x.drawer(d, 0));
            told.add((long) x.drawer(d, 1));
            told.add((long) x.opened(d, 0));
        }
        told.add((long) x.letOff());
        told.add((long) x.judge(0, 0));
        told.add((long) x.judge(0, 2));
        told.add((long) x.found(1, 0));
        told.add((long) x.judge(2, 0));
        told.add((long) x.judge(3, 0));
    }

    private static void notNow() {
        Sentence.terms(3, "-5 it can't be now;");
        refused(-5, x -> x.restore(1));
        DrawerNames x = full();
        for (int i = 40; i < 900; i += 20) {
            x.feed(0x20202020, 0x20202020, 0x20202020, 0x20202020, 0x20202020);
        }
        Checks.due("a full tape", x.feed(-1, -1, -1, -1, -1), -5);
        Checks.due("no more on it", x.count(6), 900);
        Checks.due("what was on it", x.desk(900), 2);
    }

    private static void faultCodes() {
        Sentence.terms(3, "-30 less the FAULT: a text.");
        String[] texts = {"?", "desk", "desk drawers 9", "desk drawers 2 opens 1;next:(((((((1"};
        for (int kind = 1; kind <= 4; kind++) {
            DrawerNames x = full();
            x.desk(0);
            Checks.due("kind " + kind, Checks.tell(x, texts[kind - 1]), -30 - kind);
            Checks.due("drawers stay", x.count(0), 4);
            Checks.due("clue stays", x.count(2), 2);
            Checks.due("nights stay", x.count(3), 2);
            Checks.due("lines stay", x.count(7), 11);
            Checks.due("calls stay", x.undo(3), 0);
            Checks.due("as at first", x.lies(0), 9);
        }
    }

    private static void firstTold() {
        Sentence.terms(3, "(Of several that which the call tells first;");
        DrawerNames x = full();
        Checks.due("opened", x.opened(4, -1), -2);
        Checks.due("judge", x.judge(3, 4), -2);
        Checks.due("way", x.way(2, -1), -2);
        Checks.due("rows", x.rows(2, 8), -2);
        Checks.due("often", x.often(2, -1), -2);
        Checks.due("found, the one", x.found(3, 4), -2);
        Checks.due("found, the tray", x.found(4, 4), -2);
        Checks.due("names, the drawer", x.names(3, 0, 4), -2);
        Checks.due("names, the one", x.names(3, 4, 0), -2);
        Checks.due("look, the one", x.look(3, 4), -2);
        Checks.due("chance, what", x.chance(0, 8, 2), -2);
        Checks.due("chance, the aim", x.chance(2, 8, 0), -2);
        Checks.due("mean", x.mean(8, 2), -2);
        Checks.due("numbers, the tray", x.numbers(4, 0, 41), -2);
        Checks.due("numbers, the sort", x.numbers(0, 4, 41), -2);
        Checks.due("write, the tray", x.write(4, -1, 0), -2);
        Checks.due("write, missing", x.write(3, -1, 0), -6);
        Checks.due("lists, the tray", x.lists(4, -1), -2);
        Checks.due("lists, missing", x.lists(3, -1), -6);
        Checks.fill(x, 0, 3, 99, 99, 99, 99, 99, 99, 99, 99, 99);
        Checks.due("found, too many", x.found(0, 0), -4);
        Checks.due("found, too many, nobody such", x.found(0, 4), -2);
        Checks.due("names, too many", x.names(0, 0, 0), -4);
        Checks.due("names, too many, no such drawer", x.names(0, 0, 4), -2);
        Checks.due("look, too many", x.look(0, 0), -4);
        Checks.due("clues, too many", x.clues(0), -4);
    }

    private static void aheadOfNone() {
        Sentence.terms(3, "all these ahead of NONE.)");
        DrawerNames never = Checks.at("desk drawers 3 opens 3;");
        Checks.due("it can't be, i below 0", never.way(1, -1), -3);
        Checks.due("not so many, i below 0", never.way(0, -1), -3);
        DrawerNames nothing = Checks.at("desk drawers 3 opens 3;stops:1=1;");
        Checks.due("nothing is opened, i below 0", nothing.opened(0, -1), -3);
        Checks.due("nothing is opened, nobody such", nothing.opened(3, 9), -2);
        Checks.fill(nothing, 0, 0, 0, 3);
        Checks.due("no rows, no name", nothing.look(0, 0), -3);
        Checks.fill(nothing, 0, 0, 0, 2);
        Checks.due("no rows", nothing.look(0, 0), -1);
        Checks.due("never, no aim", nothing.first(2), -2);
        Checks.due("never, no aim", nothing.fewest(2), -2);
        Checks.due("never, no aim", nothing.forces(2), -2);
        Checks.due("never, no aim", nothing.best(2), -2);
    }
}
