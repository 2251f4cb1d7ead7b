/** Sentences of promises 16 to 30, and in the terms of rows, rounds, powers, aims, swapping, going. */
final class RowSentences {
    private static final long FAR = 1000000000000000L;
    /** Row 146: 1 2 0 4 3 5. */
    private static final String SIX = "desk drawers 6 opens 3;name 0 1;name 1 2;name 2 0;name 3 4;name 4 3;";
    private static final String SIX_BY_NIGHT =
            "desk drawers 6 opens 1;night 0 1;night 1 2;night 2 0;night 3 4;night 4 3;";
    private static final int[] NO_AIMS = {-1, 2, 3, Integer.MIN_VALUE, Integer.MAX_VALUE};

    private RowSentences() {
    }

    static void all() {
        rowTerms();
        liesSentences();
        roundSentences();
        powerSentences();
        rootsSentences();
        boundedSentences();
        aims();
        swappingTerms();
        fewestSentences();
        waySentences();
        rowsSentences();
        ofAllSentences();
        ofOneSentences();
        justSentences();
        atSentences();
        comesRound();
        firstSentences();
        oftenSentences();
    }

    private static DrawerNames lying(int opens, int... names) {
        StringBuilder text = new StringBuilder("desk drawers " + names.length + " opens " + opens + ";");
        for (int d = 0; d < names.length; d++) {
            text.append("name ").append(d).append(' ').append(names[d]).append(';');
        }
        return Checks.at(text.toString());
    }

    private static void rowTerms() {
        Sentence.terms(3, "ROWS of NAMES are numbered from 0 on: DRAWER by DRAWER, the one with the lesser name ahead.");
        int[][] ofThree = {{0, 1, 2}, {0, 2, 1}, {1, 0, 2}, {1, 2, 0}, {2, 0, 1}, {2, 1, 0}};
        for (int number = 0; number < 6; number++) {
            Checks.due("row", lying(1, ofThree[number]).lies(0), number);
        }
        Checks.due("one alone", lying(1, 0).lies(0), 0);
        Checks.due("the first of six", lying(1, 0, 1, 2, 3, 4, 5).lies(0), 0);
        Checks.due("the second of six", lying(1, 0, 1, 2, 3, 5, 4).lies(0), 1);
        Checks.due("the last of those with 0 first", lying(1, 0, 5, 4, 3, 2, 1).lies(0), 119);
        Checks.due("the first of those with 1 first", lying(1, 1, 0, 2, 3, 4, 5).lies(0), 120);
        Checks.due("the last of six", lying(1, 5, 4, 3, 2, 1, 0).lies(0), 719);
        for (int n = 1; n <= 5; n++) {
            int number = 0;
            for (int[] names : AllRows.of(n)) {
                Checks.due("one of " + n, lying(1, names).lies(0), number);
                number++;
            }
        }

        Sentence.terms(3, "A ROUND: DRAWERS of which each one's name is the number of the next one.");
        DrawerNames x = lying(1, 2, 0, 4, 3, 1, 5);
        Checks.due("0 2 4 1", x.round(0, 1), 1 + 2 + 4 + 16);
        Checks.due("0 2 4 1, from 4", x.round(4, 1), 1 + 2 + 4 + 16);
        Checks.due("3 alone", x.round(3, 1), 8);
        Checks.due("5 alone", x.round(5, 1), 32);

        Sentence.terms(3, "POWER k of a ROW: to each DRAWER the name to which one comes from it by k names, each the number"
                + " of the next DRAWER (k 0: its own number).");
        Checks.due("0", x.power(0), 0);
        Checks.due("1", x.power(1), Checks.rowNumber(2, 0, 4, 3, 1, 5));
        Checks.due("2", x.power(2), Checks.rowNumber(4, 2, 1, 3, 0, 5));
        Checks.due("3", x.power(3), Checks.rowNumber(1, 4, 0, 3, 2, 5));
        Checks.due("4", x.power(4), 0);
        Checks.due("5", x.power(5), Checks.rowNumber(2, 0, 4, 3, 1, 5));
    }

    private static void liesSentences() {
        Sentence.promise(16, "How names lie, what 0: the ROW's number");
        Moved.alike(desk -> desk.lies(0), desk -> desk.lies(1), desk -> desk.lies(2), desk -> desk.lies(3), desk -> desk.lies(4),
                desk -> desk.lies(5));
        DrawerNames x = Checks.at(SIX);
        Checks.due("1 2 0 4 3 5", x.lies(0), 146);
        x.swap(0, 5);
        Checks.due("5 2 0 4 3 1", x.lies(0), Checks.rowNumber(5, 2, 0, 4, 3, 1));

        DrawerNames one = new DrawerNames();
        DrawerNames home = lying(1, 0, 1, 2, 3, 4, 5);
        DrawerNames last = lying(1, 5, 4, 3, 2, 1, 0);
        DrawerNames round = lying(1, 1, 2, 3, 4, 5, 0);
        DrawerNames mixed = Checks.at(SIX);

        Sentence.promise(16, "1: how many ROUNDS");
        dueOfFive("rounds", 1, new DrawerNames[] {one, home, last, round, mixed}, 1, 6, 3, 1, 3);

        Sentence.promise(16, "2: how many DRAWERS the longest has");
        dueOfFive("longest", 2, new DrawerNames[] {one, home, last, round, mixed}, 1, 1, 2, 6, 3);

        Sentence.promise(16, "3: how many DRAWERS hold their own number");
        dueOfFive("own", 3, new DrawerNames[] {one, home, last, round, mixed}, 1, 6, 0, 0, 1);

        Sentence.promise(16, "4: the least POWER (1 and more) by which each does");
        dueOfFive("power", 4, new DrawerNames[] {one, home, last, round, mixed}, 1, 1, 2, 6, 6);
        Checks.due("three", lying(1, 1, 2, 0, 4, 5, 3).lies(4), 3);
        Checks.due("four", lying(1, 1, 2, 3, 0, 5, 4).lies(4), 4);
        Checks.due("five", lying(1, 1, 2, 3, 4, 0, 5).lies(4), 5);

        Sentence.promise(16, "5: how many two DRAWERS there are the first of which has the greater name.");
        dueOfFive("two", 5, new DrawerNames[] {one, home, last, round, mixed}, 0, 0, 15, 5, 3);

        Sentence.promise(16, "-2.");
        for (int what : new int[] {-1, 6, 7, Integer.MIN_VALUE, Integer.MAX_VALUE}) {
            Checks.due("what " + what, x.lies(what), -2);
        }
    }

    private static void dueOfFive(String call, int what, DrawerNames[] desks, int... due) {
        for (int i = 0; i < due.length; i++) {
            Checks.due(call + " of desk " + i, desks[i].lies(what), due[i]);
        }
    }

    private static void roundSentences() {
        Sentence.promise(17, "The ROUND of a DRAWER, what 0: how many DRAWERS, 1: which, as bits.");
        Moved.alike(desk -> desk.round(0, 0), desk -> desk.round(1, 1), desk -> desk.round(3, 1));
        DrawerNames x = Checks.at(SIX);
        int[] lengths = {3, 3, 3, 2, 2, 1};
        int[] bits = {7, 7, 7, 24, 24, 32};
        for (int d = 0; d < 6; d++) {
            Checks.due("how many of " + d, x.round(d, 0), lengths[d]);
            Checks.due("which of " + d, x.round(d, 1), bits[d]);
        }
        DrawerNames round = lying(1, 5, 0, 1, 2, 3, 4);
        Checks.due("all six", round.round(3, 0), 6);
        Checks.due("all six", round.round(3, 1), 63);

        Sentence.promise(17, "-2.");
        for (int d : new int[] {-1, 6, 7, Integer.MIN_VALUE, Integer.MAX_VALUE}) {
            Checks.due("drawer " + d, x.round(d, 0), -2);
            Checks.due("drawer " + d, x.round(d, 1), -2);
        }
        for (int what : NO_AIMS) {
            Checks.due("what " + what, x.round(0, what), -2);
        }
        Checks.due("one drawer", new DrawerNames().round(1, 0), -2);
    }

    private static void powerSentences() {
        Sentence.promise(18, "The number of the POWER k (0 to 1,000,000,000,000,000).");
        Moved.alike(desk -> desk.power(1), desk -> desk.power(2), desk -> desk.power(3));
        DrawerNames x = Checks.at(SIX);
        int[] powers = {0, 146, 240, 2, 144, Checks.rowNumber(2, 0, 1, 4, 3, 5)};
        for (int k = 0; k < 30; k++) {
            Checks.due("power " + k, x.power(k), powers[k % 6]);
        }
        Checks.due("the greatest", x.power(FAR), powers[(int) (FAR % 6)]);
        Checks.due("the one ahead", x.power(FAR - 1), powers[(int) ((FAR - 1) % 6)]);
        Checks.due("above an int", x.power((1L << 32) + 1), powers[(int) (((1L << 32) + 1) % 6)]);

        Sentence.promise(18, "-3.");
        for (long k : new long[] {-1, FAR + 1, Long.MIN_VALUE, Long.MAX_VALUE, Integer.MIN_VALUE}) {
            Checks.due("power " + k, x.power(k), -3);
        }
    }

    private static void rootsSentences() {
        Sentence.promise(19, "Of how many ROWS this one is the POWER k (1 to 9).");
        Moved.alike(desk -> desk.roots(2), desk -> desk.roots(3), desk -> desk.roots(4));
        DrawerNames x = Checks.at("desk drawers 4 opens 1;");
        int[] roots = {1, 10, 9, 16, 1, 18, 1, 16, 9};
        for (int k = 1; k <= 9; k++) {
            Checks.due("roots " + k, x.roots(k), roots[k - 1]);
        }
        x.swap(0, 1);
        Checks.due("none", x.roots(2), 0);
        Checks.due("one alone", new DrawerNames().roots(9), 1);

        Sentence.promise(19, "-3.");
        for (int k : new int[] {0, -1, 10, 11, Integer.MIN_VALUE, Integer.MAX_VALUE}) {
            Checks.due("roots " + k, x.roots(k), -3);
        }
    }

    private static void boundedSentences() {
        Sentence.promise(20, "Of n things in a row (1 to 20) how many ROWS of NAMES there are in which no ROUND has more than k"
                + " (1 to 20).");
        DrawerNames x = new DrawerNames();
        long all = 1;
        for (int n = 1; n <= 20; n++) {
            all *= n;
            Checks.due("all of " + n, x.bounded(n, n), all);
            Checks.due("all of " + n, x.bounded(n, 20), all);
            Checks.due("only one of " + n, x.bounded(n, 1), 1);
            if (n > 1) {
                Checks.due("no round of all " + n, x.bounded(n, n - 1), all - all / n);
            }
        }
        Checks.due("by two of 20", x.bounded(20, 2), 23758664096L);
        Checks.due("by three of 6", x.bounded(6, 3), 276);
        Checks.due("by three of 4", x.bounded(4, 3), 18);

        Sentence.promise(20, "-3.");
        int[] never = {0, -1, 21, 22, Integer.MIN_VALUE, Integer.MAX_VALUE};
        for (int wrong : never) {
            Checks.due("bounded " + wrong + " 1", x.bounded(wrong, 1), -3);
            Checks.due("bounded 1 " + wrong, x.bounded(1, wrong), -3);
            Checks.due("bounded 20 " + wrong, x.bounded(20, wrong), -3);
        }
    }

    private static void aims() {
        Sentence.terms(3, "AIM 0: all are LET OFF; 1: nobody.");
        DrawerNames x = lying(1, 0, 1, 2);
        Checks.due("all", x.fewest(0), 0);
        Checks.holds("not nobody", x.fewest(1) > 0);
        x.swap(0, 1);
        Checks.holds("not all", x.fewest(0) > 0);
        Checks.holds("not nobody", x.fewest(1) > 0);
        x.swap(1, 2);
        Checks.holds("not all", x.fewest(0) > 0);
        Checks.due("nobody", x.fewest(1), 0);
    }

    private static void swappingTerms() {
        Sentence.terms(3, "SWAPPING to an AIM: the fewest SWAPS (told as 10 times the lesser DRAWER, and the other one)");
        DrawerNames x = lying(1, 0, 1, 2, 3, 5, 4);
        Checks.due("one", x.fewest(0), 1);
        Checks.due("4 and 5", x.way(0, 0), 45);
        DrawerNames y = lying(1, 1, 2, 3, 4, 5, 0);
        Checks.due("five", y.fewest(0), 5);
        Checks.due("the last drawers last", y.way(0, 4), 5);

        Sentence.terms(3, "nothing else being done; of like ones the first by these numbers.");
        DrawerNames z = Checks.at("desk drawers 2 opens 1;name 0 1;name 1 0;night 0 1;night 1 0;next:found+clue;");
        Checks.due("neither a night nor a clue", z.fewest(0), 1);
        Checks.due("the row stays", z.lies(0), 1);
        Checks.due("the clue stays", z.count(2), 0);
        Checks.due("no nights", z.count(3), 0);
        Checks.due("nothing to undo", z.count(5), 0);
        DrawerNames four = lying(2, 1, 2, 3, 0);
        Checks.due("one of 2, 13", four.fewest(0), 1);
        Checks.due("the first", four.way(0, 0), 2);
        DrawerNames five = lying(1, 0, 1, 2, 3, 4);
        int[] way = {1, 2, 34};
        for (int i = 0; i < 3; i++) {
            Checks.due("of five at home " + i, five.way(1, i), way[i]);
        }
        for (int[] names : AllRows.of(5)) {
            for (int opens = 1; opens < 5; opens++) {
                goesBy(lying(opens, names), 0, opens, names);
            }
            goesBy(lying(1, names), 1, 1, names);
        }
    }

    private static int swapsTo(int aim, int opens, int[] names) {
        return aim == 0 ? AllRows.swapsToAll(names, opens) : AllRows.swapsToNobody(names);
    }

    /** The way goes by the first swap that comes nearer, again and again. */
    private static void goesBy(DrawerNames x, int aim, int opens, int[] names) {
        int[] row = names;
        int swaps = swapsTo(aim, opens, names);
        Checks.due("fewest of row " + Checks.rowNumber(names), x.fewest(aim), swaps);
        for (int i = 0; i < swaps; i++) {
            int[] pair = firstPair(row, aim, opens);
            Checks.due("way " + i + " of row " + Checks.rowNumber(names), x.way(aim, i), 10 * pair[0] + pair[1]);
            row = AllRows.swapped(row, pair[0], pair[1]);
        }
        Checks.due("no more of row " + Checks.rowNumber(names), x.way(aim, swaps), -1);
    }

    private static int[] firstPair(int[] row, int aim, int opens) {
        for (int d = 0; d < row.length; d++) {
            for (int e = d + 1; e < row.length; e++) {
                if (swapsTo(aim, opens, AllRows.swapped(row, d, e)) < swapsTo(aim, opens, row)) {
                    return new int[] {d, e};
                }
            }
        }
        throw new IllegalStateException("no swap comes nearer");
    }

    private static void fewestSentences() {
        Sentence.promise(21, "SWAPPING to an AIM (0 to 1): how many.");
        Moved.alike(desk -> desk.fewest(0), desk -> desk.fewest(1));
        int[][] names = {{0, 1, 2, 3, 4, 5}, {1, 0, 2, 3, 4, 5}, {1, 2, 0, 3, 4, 5}, {1, 2, 3, 0, 4, 5}, {1, 2, 3, 4, 0, 5},
            {1, 2, 3, 4, 5, 0}};
        for (int swaps = 0; swaps < 6; swaps++) {
            Checks.due("to all", lying(1, names[swaps]).fewest(0), swaps);
        }
        int[] toNobody = {3, 2, 2, 1, 1, 0};
        for (int i = 0; i < 6; i++) {
            Checks.due("to nobody", lying(1, names[i]).fewest(1), toNobody[i]);
        }

        Sentence.promise(21, "NONE: it can't be;");
        Checks.due("always all", Checks.at("desk drawers 3 opens 3;").fewest(1), -1);
        Checks.due("never all", Checks.at("desk drawers 3 opens 3;stops:me=1;").fewest(0), -1);
        Checks.due("never nobody", Checks.at("desk drawers 3 opens 3;stops:me=1;").fewest(1), -1);
        Checks.due("one drawer", new DrawerNames().fewest(1), -1);

        Sentence.promise(21, "-2.");
        for (int aim : NO_AIMS) {
            Checks.due("aim " + aim, Checks.at(SIX).fewest(aim), -2);
            Checks.due("aim " + aim, new DrawerNames().fewest(aim), -2);
        }
    }

    private static void waySentences() {
        DrawerNames x = lying(1, 1, 2, 3, 4, 5, 0);

        Sentence.promise(22, "Its i-th SWAP.");
        Moved.alike(desk -> desk.way(0, 0), desk -> desk.way(1, 0), desk -> desk.way(0, 1), desk -> desk.way(1, 1));
        int[] way = {1, 2, 3, 4, 5};
        for (int i = 0; i < 5; i++) {
            Checks.due("way " + i, x.way(0, i), way[i]);
        }

        Sentence.promise(22, "NONE: not so many, it can't be;");
        Checks.due("no sixth", x.way(0, 5), -1);
        Checks.due("far", x.way(0, Integer.MAX_VALUE), -1);
        Checks.due("it is so", x.way(1, 0), -1);
        Checks.due("it can't be", new DrawerNames().way(1, 0), -1);
        Checks.due("it can't be", Checks.at("desk drawers 6 opens 6;").way(1, 0), -1);

        Sentence.promise(22, "-2;");
        for (int aim : NO_AIMS) {
            Checks.due("aim " + aim, x.way(aim, 0), -2);
        }

        Sentence.promise(22, "-3: i is below 0.");
        Checks.due("-1", x.way(0, -1), -3);
        Checks.due("least", x.way(1, Integer.MIN_VALUE), -3);
    }

    private static void rowsSentences() {
        Sentence.promise(23, "How many rows of just n SWAPS (0 to 7), one behind the other, there are behind which it is as an AIM"
                + " tells.");
        Moved.alike(desk -> desk.rows(0, 1), desk -> desk.rows(1, 2), desk -> desk.rows(0, 3), desk -> desk.rows(1, 0));
        DrawerNames x = lying(1, 0, 1, 2);
        long[] home = {1, 0, 3, 0, 27, 0, 243, 0};
        for (int n = 0; n <= 7; n++) {
            Checks.due("home by " + n, x.rows(0, n), home[n]);
            Checks.due("nobody by " + n, x.rows(1, n), n == 0 ? 0 : 2 * home[n]);
        }
        DrawerNames swapped = lying(1, 1, 0, 2);
        for (int n = 0; n < 7; n++) {
            Checks.due("home from 1 0 2 by " + n, swapped.rows(0, n), home[n + 1] / 3);
            Checks.due("nobody from 1 0 2 by " + n, swapped.rows(1, n), 2 * home[n + 1] / 3);
        }
        DrawerNames any = Checks.at("desk drawers 6 opens 6;");
        long all = 1;
        for (int n = 0; n <= 7; n++) {
            Checks.due("any by " + n, any.rows(0, n), all);
            all *= 15;
        }
        DrawerNames one = new DrawerNames();
        Checks.due("one drawer, no swap", one.rows(0, 0), 1);
        Checks.due("one drawer, a swap", one.rows(0, 1), 0);
        Checks.due("one drawer, seven swaps", one.rows(0, 7), 0);

        Sentence.promise(23, "-2;");
        for (int aim : NO_AIMS) {
            Checks.due("aim " + aim, x.rows(aim, 0), -2);
        }

        Sentence.promise(23, "-3.");
        for (int n : new int[] {-1, 8, 9, Integer.MIN_VALUE, Integer.MAX_VALUE}) {
            Checks.due("rows of " + n, x.rows(0, n), -3);
            Checks.due("rows of " + n, x.rows(1, n), -3);
        }
    }

    private static void ofAllSentences() {
        Sentence.promise(24, "Of how many ROWS (all there can be) it is as an AIM tells.");
        Moved.alike(desk -> desk.ofAll(0), desk -> desk.ofAll(1));
        long[] byThree = {1, 2, 6, 18, 66, 276};
        long[] nobodyByOne = {0, 1, 2, 9, 44, 265};
        for (int n = 1; n <= 6; n++) {
            Checks.due("all by three", Checks.at("desk drawers " + n + " opens 3;").ofAll(0), byThree[n - 1]);
            Checks.due("nobody by one", Checks.at("desk drawers " + n + " opens 1;").ofAll(1), nobodyByOne[n - 1]);
        }
        Checks.due("none", Checks.at("desk drawers 6 opens 6;").ofAll(1), 0);
        Checks.due("each", Checks.at("desk drawers 6 opens 6;").ofAll(0), 720);
        DrawerNames x = Checks.at("desk drawers 4 opens 1;stops:not clue=9;");
        Checks.due("nobody by clue 0", x.ofAll(1), 24);
        x.clue(9);
        Checks.due("all by clue 9", x.ofAll(0), 1);
        Checks.due("nobody by clue 9", x.ofAll(1), 9);

        Sentence.promise(24, "-2.");
        for (int aim : NO_AIMS) {
            Checks.due("aim " + aim, Checks.at(SIX).ofAll(aim), -2);
        }
    }

    private static void ofOneSentences() {
        Sentence.promise(25, "Of how many ROWS one of the PEOPLE is LET OFF.");
        Moved.alike(desk -> desk.ofOne(0), desk -> desk.ofOne(1), desk -> desk.ofOne(2), desk -> desk.ofOne(3));
        for (int opens = 1; opens <= 9; opens++) {
            DrawerNames x = Checks.at("desk drawers 6 opens " + opens + ";");
            for (int p = 0; p < 6; p++) {
                Checks.due("one " + p + " by " + opens, x.ofOne(p), 120 * Math.min(opens, 6));
            }
        }
        DrawerNames x = Checks.at("desk drawers 3 opens 1;stops:me=1;");
        Checks.due("never", x.ofOne(1), 0);
        Checks.due("two of six", x.ofOne(2), 2);
        DrawerNames y = Checks.at("desk drawers 3 opens 3;stops:clue=1;");
        Checks.due("each by clue 0", y.ofOne(0), 6);
        y.clue(1);
        Checks.due("never by clue 1", y.ofOne(0), 0);
        y.clue(2);
        Checks.due("each by clue 2", y.ofOne(0), 6);

        Sentence.promise(25, "-2.");
        for (int p : new int[] {-1, 3, 4, Integer.MIN_VALUE, Integer.MAX_VALUE}) {
            Checks.due("one " + p, x.ofOne(p), -2);
        }
    }

    private static void justSentences() {
        Sentence.promise(26, "Of how many ROWS just n PEOPLE are LET OFF (n 0 and more).");
        Moved.alike(desk -> desk.just(0), desk -> desk.just(1), desk -> desk.just(2), desk -> desk.just(3));
        DrawerNames x = Checks.at("desk drawers 4 opens 1;");
        int[] homes = {9, 8, 6, 0, 1, 0, 0, 0};
        for (int n = 0; n < homes.length; n++) {
            Checks.due("just " + n, x.just(n), homes[n]);
        }
        Checks.due("far", x.just(Integer.MAX_VALUE), 0);

        Sentence.promise(26, "-3: below 0.");
        Checks.due("-1", x.just(-1), -3);
        Checks.due("least", x.just(Integer.MIN_VALUE), -3);
    }

    private static void atSentences() {
        DrawerNames x = Checks.at(SIX_BY_NIGHT);

        Sentence.terms(3, "GOING: NIGHTS from now on, for ever, nothing else being done.");
        x.nights(1);
        Checks.due("from now on", x.at(1), Checks.rowNumber(1, 2, 0, 3, 4, 5));
        Checks.due("the row stays", x.lies(0), Checks.rowNumber(2, 0, 1, 4, 3, 5));
        Checks.due("nights stay", x.count(3), 1);
        Checks.due("one call can be undone", x.count(5), 1);
        x.undo(1);

        Sentence.promise(27, "The ROW's number behind n NIGHTS GOING (0 to 1,000,000,000,000,000).");
        Moved.alike(desk -> desk.at(0), desk -> desk.at(1), desk -> desk.at(2));
        int[] rows = {0, 242, 144, 2, 240, Checks.rowNumber(1, 2, 0, 4, 3, 5)};
        for (int n = 0; n < 30; n++) {
            Checks.due("at " + n, x.at(n), rows[n % 6]);
        }
        Checks.due("the greatest", x.at(FAR), rows[(int) (FAR % 6)]);
        Checks.due("the one ahead", x.at(FAR - 1), rows[(int) ((FAR - 1) % 6)]);
        Checks.due("above an int", x.at((1L << 32) + 1), rows[(int) (((1L << 32) + 1) % 6)]);

        Sentence.promise(27, "-3.");
        for (long n : new long[] {-1, FAR + 1, Long.MIN_VALUE, Long.MAX_VALUE, Integer.MIN_VALUE}) {
            Checks.due("at " + n, x.at(n), -3);
        }
    }

    private static void comesRound() {
        Sentence.promise(28, "GOING: behind how many NIGHTS all lies as it does now, 1 at least.");
        Moved.alike(desk -> desk.comesRound());
        Checks.due("nothing moves", Checks.at(SIX).comesRound(), 1);
        Checks.due("one drawer", new DrawerNames().comesRound(), 1);
        Checks.due("two", Checks.at("desk drawers 6 opens 1;night 0 5;night 5 0;").comesRound(), 2);
        Checks.due("three", Checks.at("desk drawers 3 opens 1;night 0 1;night 1 2;night 2 0;").comesRound(), 3);
        Checks.due("four", Checks.at("desk drawers 4 opens 1;night 0 1;night 1 2;night 2 3;night 3 0;").comesRound(), 4);
        Checks.due("five", Checks.at("desk drawers 6 opens 1;night 0 1;night 1 2;night 2 3;night 3 4;night 4 0;").comesRound(), 5);
        Checks.due("three and two", Checks.at(SIX_BY_NIGHT).comesRound(), 6);
        Checks.due("six", Checks.at("desk drawers 6 opens 1;night 0 1;night 1 2;night 2 3;night 3 4;night 4 5;night 5 0;")
                .comesRound(), 6);
    }

    private static void firstSentences() {
        Sentence.promise(29, "GOING, behind how many NIGHTS (0 too) it is as an AIM tells first.");
        Moved.alike(desk -> desk.first(0), desk -> desk.first(1));
        DrawerNames x = Checks.at(SIX_BY_NIGHT);
        Checks.due("now", x.first(0), 0);
        for (int n = 1; n <= 6; n++) {
            x.nights(1);
            Checks.due("behind " + n, x.first(0), 6 - n);
        }
        DrawerNames y = Checks.at("desk drawers 2 opens 1;night 0 1;night 1 0;");
        Checks.due("tomorrow nobody", y.first(1), 1);

        Sentence.promise(29, "NONE: never;");
        Checks.due("5 stays", x.first(1), -1);
        x.swap(0, 1);
        Checks.due("not as it was", x.first(0), -1);

        Sentence.promise(29, "-2.");
        for (int aim : NO_AIMS) {
            Checks.due("aim " + aim, x.first(aim), -2);
        }
    }

    private static void oftenSentences() {
        Sentence.promise(30, "Behind how many of n NIGHTS GOING (each of 1 to n, 0 to 1,000,000,000,000,000) it is as an AIM tells.");
        Moved.alike(desk -> desk.often(0, 1), desk -> desk.often(1, 2), desk -> desk.often(0, 5), desk -> desk.often(1, 9));
        DrawerNames x = Checks.at(SIX_BY_NIGHT);
        for (int n = 0; n < 30; n++) {
            Checks.due("not counting now, of " + n, x.often(0, n), n / 6);
        }
        Checks.due("of the most", x.often(0, FAR), FAR / 6);
        x.nights(5);
        for (int n = 0; n < 30; n++) {
            Checks.due("the first is so, of " + n, x.often(0, n), (n + 5) / 6);
        }
        Checks.due("of the most", x.often(0, FAR), (FAR + 5) / 6);
        Checks.due("nobody", x.often(1, FAR), 0);
        DrawerNames y = Checks.at("desk drawers 2 opens 1;night 0 1;night 1 0;");
        Checks.due("each other", y.often(1, FAR), FAR / 2);
        Checks.due("each other", y.often(1, 1), 1);
        Checks.due("each", new DrawerNames().often(0, FAR), FAR);

        Sentence.promise(30, "-2;");
        for (int aim : NO_AIMS) {
            Checks.due("aim " + aim, x.often(aim, 0), -2);
        }

        Sentence.promise(30, "-3.");
        for (long n : new long[] {-1, FAR + 1, Long.MIN_VALUE, Long.MAX_VALUE, Integer.MIN_VALUE}) {
            Checks.due("often of " + n, x.often(0, n), -3);
            Checks.due("often of " + n, x.often(1, n), -3);
        }
    }
}
