/** Sentences of promises 9 to 15, and in the terms of deeds, of undoing, of years. */
final class DeedSentences {
    /** Row 9: 1 2 3 0. */
    private static final String FOUR =
            "desk drawers 4 opens 2;name 0 1;name 1 2;name 2 3;name 3 0;night 0 1;night 1 2;night 2 0;clue 5;";
    private static final int[] NO_TRAYS = {-1, 4, 5, Integer.MIN_VALUE, Integer.MAX_VALUE};

    private DeedSentences() {
    }

    static void all() {
        toSwap();
        aNight();
        anotherClue();
        whyNot();
        deeds();
        undone();
        swapSentences();
        nightsSentences();
        clueSentences();
        undoSentences();
        judgeSentences();
        performSentences();
        yearTerms();
        yearSentences();
    }

    private static void row(DrawerNames x, int... names) {
        for (int d = 0; d < names.length; d++) {
            Checks.due("in drawer " + d, x.drawer(d, 0), names[d]);
        }
    }

    private static void toSwap() {
        Sentence.terms(2, "To SWAP: the names of two DRAWERS.");
        DrawerNames x = Checks.at(FOUR);
        x.swap(0, 3);
        row(x, 0, 2, 3, 1);
        x.swap(2, 1);
        row(x, 0, 3, 2, 1);
        x.swap(1, 2);
        row(x, 0, 2, 3, 1);
    }

    private static void aNight() {
        Sentence.terms(2, "A NIGHT: each name goes into the DRAWER told for the one where it lies.");
        DrawerNames x = Checks.at(FOUR);
        x.nights(1);
        row(x, 3, 1, 2, 0);
        x.nights(1);
        row(x, 2, 3, 1, 0);
        x.nights(1);
        row(x, 1, 2, 3, 0);
    }

    private static void anotherClue() {
        Sentence.terms(2, "Another CLUE.");
        DrawerNames x = Checks.at("desk drawers 2 opens 1;next:found+clue;");
        Checks.due("by clue 0", x.letOff(), 3);
        x.clue(1);
        Checks.due("clue", x.count(2), 1);
        Checks.due("by clue 1", x.letOff(), 0);
        row(x, 0, 1);
        Checks.due("no night", x.count(3), 0);
    }

    private static void whyNot() {
        Sentence.terms(2, "Why not: 1 no such DRAWER (both one), CLUE.");
        DrawerNames x = Checks.at(FOUR);
        Checks.due("no such", x.swap(0, 4), -11);
        Checks.due("both one", x.swap(1, 1), -11);
        Checks.due("no such clue", x.clue(10), -11);
        for (int deed : new int[] {104, 140, 100, 111, 122, 133, 155}) {
            Checks.fill(x, 0, 1, deed);
            Checks.due("why not " + deed, x.judge(0, 1), 1);
        }
    }

    private static void deeds() {
        Sentence.terms(2, "DEEDS: 0: a NIGHT;");
        deed(0, true, Checks.rowNumber(3, 1, 2, 0), 5, 1);

        Sentence.terms(2, "10 to 19: CLUE v - 10;");
        for (int v = 10; v <= 19; v++) {
            deed(v, true, 9, v - 10, 0);
        }
        deed(9, false, 9, 5, 0);
        deed(20, false, 9, 5, 0);

        Sentence.terms(2, "100 to 199: DRAWERS (v - 100) by 10 and v modulo 10 are SWAPPED;");
        for (int v = 99; v <= 200; v++) {
            int d = (v - 100) / 10;
            int e = v % 10;
            boolean can = v >= 100 && v < 200 && d < 4 && e < 4 && d != e;
            int[] names = {1, 2, 3, 0};
            if (can) {
                int kept = names[d];
                names[d] = names[e];
                names[e] = kept;
            }
            deed(v, can, Checks.rowNumber(names), 5, 0);
        }

        Sentence.terms(2, "others: 1.");
        for (int v = -300; v < 400; v++) {
            if (v != 0 && (v < 10 || v > 19) && (v < 100 || v > 199)) {
                deed(v, false, 9, 5, 0);
            }
        }
        long[] far = {1L << 32, (1L << 32) + 10, (1L << 32) + 101, (1L << 40) + 19, 65536, 65536 + 101, 256, 256 + 15,
            -(1L << 32), Long.MIN_VALUE, Long.MAX_VALUE, Integer.MIN_VALUE, Integer.MAX_VALUE};
        for (long v : far) {
            deed(v, false, 9, 5, 0);
        }
    }

    /** One deed, judged and then done, and how it is behind. */
    private static void deed(long v, boolean can, int row, int clue, int nights) {
        DrawerNames x = Checks.at(FOUR);
        Checks.fill(x, 3, 3, v);
        Checks.due("place of " + v, x.judge(3, 0), can ? -1 : 0);
        Checks.due("why not " + v, x.judge(3, 1), can ? 0 : 1);
        Checks.due("row judged of " + v, x.judge(3, 2), row);
        Checks.due("done of " + v, x.perform(3), can ? 1 : 0);
        Checks.due("row of " + v, x.lies(0), row);
        Checks.due("clue of " + v, x.count(2), clue);
        Checks.due("nights of " + v, x.count(3), nights);
        Checks.due("calls of " + v, x.count(5), can ? 1 : 0);
    }

    private static void undone() {
        Sentence.terms(2, "Calls that did some can be UNDONE each as a whole");
        DrawerNames x = Checks.at(FOUR);
        Checks.fill(x, 0, 1, 0, 17, 101, 0, 7);
        Checks.due("four deeds", x.perform(0), 4);
        Checks.due("one call", x.count(5), 1);
        Checks.due("a year of four nights", x.year(0, 4), 4);
        Checks.due("another call", x.count(5), 2);
        Checks.due("99 nights", x.nights(99) >= 0 ? 0 : 1, 0);
        Checks.due("another call", x.count(5), 3);
        Checks.due("the nights", x.undo(1), 2);
        Checks.due("nights", x.count(3), 6);
        Checks.due("the year", x.undo(1), 1);
        Checks.due("nights", x.count(3), 2);
        Checks.due("the tray", x.undo(1), 0);
        row(x, 1, 2, 3, 0);
        Checks.fill(x, 0, 1, 7, 0);
        Checks.due("no deed", x.perform(0), 0);
        Checks.due("a year of a swap that can't be", x.year(3, 1), 0);
        Checks.due("no swap", x.swap(4, 5), -11);
        Checks.due("no nights", x.nights(0), -3);
        Checks.due("no clue", x.clue(-1), -11);
        Checks.due("nothing did some", x.count(5), 0);
        Checks.due("a year of one night", x.year(0, 1), 1);
        Checks.due("it did", x.undo(1), 0);
        Checks.due("the same clue is told again", x.clue(5), 5);
        Checks.due("it did", x.count(5), 1);

        Sentence.terms(2, "the latest first");
        x = Checks.at(FOUR);
        x.clue(1);
        x.clue(2);
        x.clue(3);
        x.undo(1);
        Checks.due("behind the second", x.count(2), 2);
        x.undo(1);
        Checks.due("behind the first", x.count(2), 1);
        x.undo(1);
        Checks.due("as at first", x.count(2), 5);

        Sentence.terms(2, "10 at most (eldest are forgotten)");
        for (int calls = 9; calls <= 31; calls++) {
            manyUndone(calls);
        }

        Sentence.terms(2, ": names, CLUE, NIGHTS.");
        x = Checks.at(FOUR);
        x.swap(0, 1);
        x.undo(1);
        row(x, 1, 2, 3, 0);
        x.nights(2);
        x.undo(1);
        row(x, 1, 2, 3, 0);
        Checks.due("nights", x.count(3), 0);
        x.clue(9);
        x.undo(1);
        Checks.due("clue", x.count(2), 5);
    }

    private static void manyUndone(int calls) {
        DrawerNames x = Checks.at(FOUR);
        for (int i = 1; i <= calls; i++) {
            x.nights(1);
            Checks.due("behind " + i + " calls", x.count(5), Math.min(i, 10));
        }
        int most = Math.min(calls, 10);
        Checks.due("more than can be", x.undo(most + 1), -3);
        for (int i = 1; i <= most; i++) {
            Checks.due("undone " + i, x.undo(1), most - i);
            Checks.due("nights", x.count(3), calls - i);
        }
        Checks.due("no more", x.undo(1), -3);
    }

    private static void swapSentences() {
        Sentence.promise(9, "To SWAP: how many are LET OFF then.");
        Moved.alike(desk -> desk.swap(0, 1), desk -> desk.swap(3, 1));
        DrawerNames x = Checks.at(FOUR);
        Checks.due("two rounds of two", x.swap(0, 2), 4);
        Checks.due("a round of four", x.swap(2, 0), 0);
        Checks.due("one at home, a round of three", x.swap(0, 1), 1);
        Checks.due("two at home, a round of two", x.swap(3, 2), 4);

        Sentence.promise(9, "-11.");
        x = Checks.at(FOUR);
        int[][] wrong = {{0, 0}, {3, 3}, {4, 4}, {0, 4}, {4, 0}, {-1, 0}, {0, -1}, {0, 5}, {-1, 4},
            {Integer.MIN_VALUE, 1}, {1, Integer.MAX_VALUE}, {Integer.MIN_VALUE, Integer.MIN_VALUE}};
        for (int[] two : wrong) {
            Checks.due("swap " + two[0] + " " + two[1], x.swap(two[0], two[1]), -11);
        }
        row(x, 1, 2, 3, 0);
        Checks.due("nothing to undo", x.count(5), 0);
    }

    private static void nightsSentences() {
        Sentence.promise(10, "n NIGHTS (1 to 99): how many are LET OFF then.");
        Moved.alike(desk -> desk.nights(1), desk -> desk.nights(2));
        for (int n = 1; n <= 99; n++) {
            DrawerNames x = Checks.at(FOUR);
            int[] rows = {9, Checks.rowNumber(3, 1, 2, 0), Checks.rowNumber(2, 3, 1, 0)};
            Checks.due("nights " + n, x.nights(n), n % 3 == 1 ? 4 : 0);
            Checks.due("row behind " + n, x.lies(0), rows[n % 3]);
            Checks.due("nights", x.count(3), n);
            Checks.due("one call", x.count(5), 1);
        }

        Sentence.promise(10, "-3.");
        DrawerNames x = Checks.at(FOUR);
        for (int n : new int[] {0, -1, 100, 101, Integer.MIN_VALUE, Integer.MAX_VALUE}) {
            Checks.due("nights " + n, x.nights(n), -3);
        }
        Checks.due("no night", x.count(3), 0);
        Checks.due("nothing to undo", x.count(5), 0);
    }

    private static void clueSentences() {
        Sentence.promise(11, "Another CLUE (0 to 9): what it was.");
        DrawerNames x = Checks.at(FOUR);
        int was = 5;
        for (int n = 0; n <= 9; n++) {
            Checks.due("clue " + n, x.clue(n), was);
            Checks.due("it is", x.count(2), n);
            was = n;
        }

        Sentence.promise(11, "-11.");
        for (int n : new int[] {-1, 10, 11, Integer.MIN_VALUE, Integer.MAX_VALUE}) {
            Checks.due("clue " + n, x.clue(n), -11);
            Checks.due("it stays", x.count(2), 9);
        }
    }

    private static void undoSentences() {
        Sentence.promise(12, "n calls (1 to 10) are UNDONE: how many still can be.");
        for (int n = 1; n <= 10; n++) {
            DrawerNames x = Checks.at(FOUR);
            for (int i = 1; i <= 10; i++) {
                x.nights(1);
            }
            Checks.due("undo " + n, x.undo(n), 10 - n);
            Checks.due("still can be", x.count(5), 10 - n);
            Checks.due("nights", x.count(3), 10 - n);
        }

        Sentence.promise(12, "-3: n, more than can be.");
        DrawerNames x = Checks.at(FOUR);
        Checks.due("none can be", x.undo(1), -3);
        for (int i = 1; i <= 10; i++) {
            for (int n : new int[] {0, -1, i, 10, 11, Integer.MIN_VALUE, Integer.MAX_VALUE}) {
                Checks.due("undo " + n + " of " + (i - 1), x.undo(n), -3);
            }
            x.nights(1);
        }
        Checks.due("11", x.undo(11), -3);
        Checks.due("0", x.undo(0), -3);
        Checks.due("nothing was undone", x.count(3), 10);
        Checks.due("all", x.undo(10), 0);
    }

    private static void judgeSentences() {
        DrawerNames x = Checks.at(FOUR);

        Sentence.promise(13, "DEEDS, judged as if done");
        Moved.alike(desk -> desk.judge(1, 2), desk -> desk.judge(1, 3));
        Checks.fill(x, 0, 1, 0, 19, 101);
        Checks.due("row", x.judge(0, 2), Checks.rowNumber(1, 3, 2, 0));
        row(x, 1, 2, 3, 0);
        Checks.due("clue", x.count(2), 5);
        Checks.due("nights", x.count(3), 0);
        Checks.due("nothing to undo", x.count(5), 0);
        Checks.due("judged again", x.judge(0, 2), Checks.rowNumber(1, 3, 2, 0));

        Sentence.promise(13, "what 0: the first place that can't be (NONE)");
        Checks.due("all can be", x.judge(0, 0), -1);
        Checks.fill(x, 1, 1);
        Checks.due("no deeds", x.judge(1, 0), -1);
        Checks.fill(x, 1, 1, 7, 7);
        Checks.due("the first one", x.judge(1, 0), 0);
        Checks.fill(x, 1, 1, 0, 7, 0, 7);
        Checks.due("the second one", x.judge(1, 0), 1);
        x.numbers(1, 1, 40);
        Checks.due("forty nights", x.judge(1, 0), -1);
        x.write(1, 39, 104);
        Checks.due("the last one", x.judge(1, 0), 39);

        Sentence.promise(13, "1: why (0)");
        Checks.due("the last one", x.judge(1, 1), 1);
        x.write(1, 39, 0);
        Checks.due("all can be", x.judge(1, 1), 0);
        Checks.fill(x, 1, 1);
        Checks.due("no deeds", x.judge(1, 1), 0);

        Sentence.promise(13, "2: the ROW's number then");
        Checks.due("no deeds", x.judge(1, 2), 9);
        Checks.fill(x, 1, 1, 101, 0);
        Checks.due("3 2 1 0", x.judge(1, 2), Checks.rowNumber(3, 2, 1, 0));
        Checks.fill(x, 1, 1, 101, 7, 0);
        Checks.due("till the one that can't be", x.judge(1, 2), Checks.rowNumber(2, 1, 3, 0));

        Sentence.promise(13, "3: who is LET OFF then, as bits.");
        Checks.due("1 alone", x.judge(1, 3), 2);
        Checks.fill(x, 1, 1, 0);
        Checks.due("all", x.judge(1, 3), 15);
        Checks.fill(x, 1, 1);
        Checks.due("nobody as it is", x.judge(1, 3), 0);
        DrawerNames y = Checks.at("desk drawers 2 opens 1;next:found+clue;");
        Checks.fill(y, 0, 0, 11);
        Checks.due("by the clue judged", y.judge(0, 3), 0);
        Checks.due("by the clue that is", y.letOff(), 3);

        Sentence.promise(13, "-2: the TRAY, what");
        for (int tray : NO_TRAYS) {
            Checks.due("tray " + tray, x.judge(tray, 0), -2);
        }
        for (int what : new int[] {-1, 4, 5, Integer.MIN_VALUE, Integer.MAX_VALUE}) {
            Checks.due("what " + what, x.judge(0, what), -2);
            Checks.due("what " + what + " of one missing", x.judge(3, what), -2);
        }

        Sentence.promise(13, "-6.");
        DrawerNames z = Checks.at(FOUR);
        for (int tray = 0; tray < 4; tray++) {
            for (int what = 0; what < 4; what++) {
                Checks.due("missing " + tray, z.judge(tray, what), -6);
            }
        }
    }

    private static void performSentences() {
        Sentence.promise(14, "They are done, till one can't be: how many.");
        Moved.alike(desk -> desk.perform(1) * 100 + desk.lies(0));
        DrawerNames x = Checks.at(FOUR);
        Checks.fill(x, 0, 1, 0, 19, 132, 100, 0);
        Checks.due("three", x.perform(0), 3);
        row(x, 3, 1, 0, 2);
        Checks.due("nights", x.count(3), 1);
        Checks.due("clue", x.count(2), 9);
        Checks.fill(x, 0, 1, 20, 0);
        Checks.due("none", x.perform(0), 0);
        Checks.fill(x, 0, 1);
        Checks.due("none there", x.perform(0), 0);
        x.numbers(0, 1, 40);
        Checks.due("forty", x.perform(0), 40);
        Checks.due("nights", x.count(3), 41);
        x.write(0, 39, 1);
        Checks.due("thirty-nine", x.perform(0), 39);

        Sentence.promise(14, "-2;");
        for (int tray : NO_TRAYS) {
            Checks.due("tray " + tray, x.perform(tray), -2);
        }

        Sentence.promise(14, "-6.");
        DrawerNames y = Checks.at(FOUR);
        for (int tray = 0; tray < 4; tray++) {
            Checks.due("missing " + tray, y.perform(tray), -6);
        }
    }

    private static DrawerNames six() {
        return Checks.at("desk drawers 6 opens 1;night 0 1;night 1 0;");
    }

    private static void yearTerms() {
        Sentence.terms(3, "A YEAR by a SEED (x, an int; a DRAW: x becomes 1103515245 x + 12345, it is x >>> 16)");
        // each seed: four nights at most, then the clue by its draws, told by hand
        int[] seeds = {0, Integer.MIN_VALUE, -1, Integer.MAX_VALUE, 1, 12345};
        int[] nights = {4, 4, 2, 2, 0, 3};
        int[] clues = {5, 7, 6, 8, 6, 5};
        for (int i = 0; i < seeds.length; i++) {
            DrawerNames x = six();
            Checks.due("year " + seeds[i], x.year(seeds[i], nights[i] + 1), nights[i] + 1);
            Checks.due("nights of " + seeds[i], x.count(3), nights[i]);
            Checks.due("clue of " + seeds[i], x.count(2), clues[i]);
        }

        Sentence.terms(3, ": so many times (1 to 40): DRAW modulo 4: 0, 1 a NIGHT;");
        for (int times = 1; times <= 40; times++) {
            manyTimes(times * 7919, times);
            manyTimes(-times * 1234567, times);
        }
        DrawerNames x = six();
        Checks.due("modulo 4 is 0", x.year(2, 1), 1);
        Checks.due("modulo 4 is 1", x.year(4, 1), 1);
        Checks.due("nights", x.count(3), 2);

        Sentence.terms(3, "2 CLUE DRAW modulo 10;");
        int[] clueSeeds = {41, 13, 8, 15, 34, 6, 1, 27, 22};
        int[] told = {0, 1, 2, 3, 4, 5, 6, 8, 9};
        x = six();
        for (int i = 0; i < clueSeeds.length; i++) {
            Checks.due("year " + clueSeeds[i], x.year(clueSeeds[i], 1), 1);
            Checks.due("clue of " + clueSeeds[i], x.count(2), told[i]);
        }
        Checks.due("no night", x.count(3), 0);

        Sentence.terms(3, "3 DRAWERS DRAW modulo 6 and DRAW modulo 6 are SWAPPED;");
        int[][] swaps = {{5, 5, 2}, {10, 2, 3}, {17, 0, 5}, {29, 1, 2}, {31, 4, 2}, {45, 3, 4}, {57, 4, 1}};
        for (int[] swap : swaps) {
            x = six();
            Checks.due("year " + swap[0], x.year(swap[0], 1), 1);
            Checks.due("swapped", x.drawer(swap[1], 0), swap[2]);
            Checks.due("swapped", x.drawer(swap[2], 0), swap[1]);
            Checks.due("two at most", x.lies(3), 4);
        }

        Sentence.terms(3, "as in a TRAY, if it can be.");
        x = six();
        Checks.due("3 and 3 can't be", x.year(3, 1), 0);
        Checks.due("nor can they be undone", x.count(5), 0);
        Checks.due("then a night", x.year(3, 2), 1);
        Checks.due("nights", x.count(3), 1);
        Checks.due("then a clue", x.year(3, 3), 2);
        Checks.due("clue", x.count(2), 6);
        x = Checks.at("desk drawers 5 opens 1;");
        Checks.due("there is no drawer 5", x.year(17, 1), 0);
        Checks.due("row", x.lies(0), 0);
    }

    /** The same draws, call by call. */
    private static void manyTimes(int seed, int times) {
        DrawerNames x = six();
        DrawerNames y = six();
        int could = 0;
        long drawn = seed & 0xFFFFFFFFL;
        long[] draws = new long[3 * times];
        for (int i = 0; i < draws.length; i++) {
            drawn = (1103515245L * drawn + 12345L) & 0xFFFFFFFFL;
            draws[i] = drawn >> 16;
        }
        int at = 0;
        for (int i = 0; i < times; i++) {
            int kind = (int) (draws[at++] % 4);
            int answer;
            if (kind < 2) {
                answer = x.nights(1);
            } else if (kind == 2) {
                answer = x.clue((int) (draws[at++] % 10));
            } else {
                answer = x.swap((int) (draws[at++] % 6), (int) (draws[at++] % 6));
            }
            could += answer >= 0 ? 1 : 0;
        }
        Checks.due("year " + seed, y.year(seed, times), could);
        Checks.due("row of " + seed, y.lies(0), x.lies(0));
        Checks.due("clue of " + seed, y.count(2), x.count(2));
        Checks.due("nights of " + seed, y.count(3), x.count(3));
    }

    private static void yearSentences() {
        Sentence.promise(15, "A YEAR: how many could be.");
        Moved.alike(desk -> desk.year(7, 9) * 100 + desk.lies(0));
        DrawerNames x = six();
        Checks.due("all", x.year(0, 4), 4);
        Checks.due("all but one", x.year(3, 3), 2);
        Checks.due("none", x.year(12, 1), 0);
        Checks.due("two calls did some", x.count(5), 2);
        Checks.due("undone as a whole", x.undo(1), 1);
        Checks.due("nights", x.count(3), 4);

        Sentence.promise(15, "-3: how many times.");
        x = six();
        for (int times : new int[] {0, -1, 41, 42, Integer.MIN_VALUE, Integer.MAX_VALUE}) {
            Checks.due("times " + times, x.year(0, times), -3);
        }
        Checks.due("no night", x.count(3), 0);
        Checks.due("once", x.year(0, 1), 1);
        Checks.holds("forty times", x.year(0, 40) > 0);
    }
}
