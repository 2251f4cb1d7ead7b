/** Sentences of promises 31 to 34, and in the terms of what was found in a tray, who was let off in one. */
final class FoundSentences {
    private static final String FOUR = "desk drawers 4 opens 3;";
    private static final int[] NO_TRAYS = {-1, 4, 5, Integer.MIN_VALUE, Integer.MAX_VALUE};
    private static final int[] NO_DRAWERS_OF_FOUR = {-1, 4, 5, 6, Integer.MIN_VALUE, Integer.MAX_VALUE};

    private FoundSentences() {
    }

    static void all() {
        foundTerms();
        foundSentences();
        namesSentences();
        lookSentences();
        letOffTerms();
        cluesSentences();
        cluesRefused();
    }

    private static void found(DrawerNames x, int p, int due, long... names) {
        Checks.fill(x, 0, 3, names);
        Checks.due("found by " + p, x.found(0, p), due);
    }

    private static void foundTerms() {
        Sentence.terms(3, "FOUND in a TRAY (1 to 8 numbers: names one found on a VISIT, one behind the other; NONE: not known)");
        DrawerNames x = Checks.at("desk drawers 3 opens 9;next:me+1;");
        found(x, 0, 2, 1);
        found(x, 0, 2, 1, 1, 1, 1, 1, 1, 1, 1);
        found(x, 0, 0, 1, 1, 1, 1, 1, 1, 1, 2);
        found(x, 0, 4, -1, -1, -1, -1, -1, -1, -1, -1);
        found(x, 0, 2, -1, -1, -1, -1, -1, -1, -1, 1);
        found(x, 0, 6, -1);
        x = Checks.at(FOUR);
        found(x, 0, 2, 1, 2);
        found(x, 0, 6, 1, -1);
        found(x, 0, 6, -1, 0);
        found(x, 0, 2, 2, 1);
        found(x, 0, 0, 1, 1);

        Sentence.terms(3, ": ROWS by which its VISIT begins so (as many are opened at least).");
        found(x, 0, 6, 0);
        found(x, 0, 0, 0, -1);
        found(x, 0, 18, -1, -1);
        found(x, 0, 12, -1, -1, -1);
        found(x, 0, 0, -1, -1, -1, -1);
        found(x, 0, 1, 1, 2, 3);
        found(x, 0, 1, 1, 2, 0);
        x.clue(3);
        x.swap(0, 1);
        found(x, 0, 18, -1, -1);
        x = Checks.at("desk drawers 4 opens 9;next:tries;stops:tries=2 or clue=1;");
        found(x, 3, 18, -1, -1);
        found(x, 3, 0, -1, -1, -1);
        x.clue(1);
        found(x, 3, 0, -1);
    }

    private static void foundSentences() {
        Sentence.promise(31, "FOUND by one: how many ROWS.");
        Moved.alike(desk -> desk.found(3, 0), desk -> desk.found(3, 2));
        DrawerNames x = Checks.at(FOUR);
        for (int p = 0; p < 4; p++) {
            found(x, p, 24, -1);
            found(x, p, 6, p);
            found(x, p, 6, (p + 1) % 4);
            found(x, p, 0, p, p);
        }
        Checks.due("no call to undo", x.count(5), 0);
        found(new DrawerNames(), 0, 1, 0);
        found(new DrawerNames(), 0, 1, -1);
        found(Checks.at("desk drawers 6 opens 2;"), 5, 24, 0, 5);
        found(Checks.at("desk drawers 6 opens 2;"), 5, 720, -1);

        Sentence.promise(31, "-2: the TRAY, the one;");
        for (int tray : NO_TRAYS) {
            Checks.due("tray " + tray, x.found(tray, 0), -2);
        }
        for (int p : NO_DRAWERS_OF_FOUR) {
            Checks.due("one " + p, x.found(0, p), -2);
            Checks.due("one " + p + ", missing", x.found(3, p), -2);
        }

        Sentence.promise(31, "-6;");
        for (int tray = 1; tray < 4; tray++) {
            Checks.due("missing " + tray, x.found(tray, 0), -6);
        }

        Sentence.promise(31, "-4: not 1 to 8 numbers;");
        howMany(x, 0);

        Sentence.promise(31, "-3: one is no name nor NONE.");
        noNames(x, 0);
    }

    private static long call(DrawerNames x, int which) {
        return which == 0 ? x.found(0, 0) : which == 1 ? x.names(0, 0, 0) : x.look(0, 0);
    }

    private static void howMany(DrawerNames x, int which) {
        for (int n = 0; n <= 40; n++) {
            x.numbers(0, 3, n);
            for (int i = 0; i < n && i < 2; i++) {
                x.write(0, i, 9);
            }
            Checks.due("of " + n, call(x, which), n == 0 || n > 8 ? -4 : -3);
        }
    }

    private static void noNames(DrawerNames x, int which) {
        for (long name : new long[] {-2, 4, 5, 255, 256, 1L << 32, (1L << 32) + 1, (1L << 32) - 1, Long.MIN_VALUE, Long.MAX_VALUE}) {
            Checks.fill(x, 0, 3, name);
            Checks.due("name " + name, call(x, which), -3);
            Checks.fill(x, 0, 3, -1, 1, -1, 1, -1, 1, -1, name);
            Checks.due("the last is " + name, call(x, which), -3);
        }
        for (int name = -1; name < 4; name++) {
            Checks.fill(x, 0, 0, name);
            Checks.holds("a name " + name, call(x, which) >= 0);
        }
        Checks.fill(x, 0, 0, 255);
        Checks.holds("255 cut to 8 bits is NONE", call(x, which) >= 0);
    }

    private static void namesSentences() {
        Sentence.promise(32, "Whose name can lie in a DRAWER by these, as bits (0: there are none).");
        Moved.alike(desk -> desk.names(3, 0, 1), desk -> desk.names(3, 1, 2), desk -> desk.names(3, 3, 0));
        DrawerNames x = Checks.at(FOUR);
        Checks.fill(x, 0, 1, 1, -1, 0);
        int[] bits = {2, 12, 5, 9};
        for (int d = 0; d < 4; d++) {
            Checks.due("in " + d, x.names(0, 0, d), bits[d]);
        }
        Checks.fill(x, 0, 1, -1);
        for (int d = 0; d < 4; d++) {
            Checks.due("any in " + d, x.names(0, 2, d), 15);
        }
        Checks.fill(x, 0, 1, 0, 0);
        for (int d = 0; d < 4; d++) {
            Checks.due("none in " + d, x.names(0, 0, d), 0);
        }

        Sentence.promise(32, "-2: the TRAY, the one, the DRAWER;");
        for (int tray : NO_TRAYS) {
            Checks.due("tray " + tray, x.names(tray, 0, 0), -2);
        }
        for (int wrong : NO_DRAWERS_OF_FOUR) {
            Checks.due("one " + wrong, x.names(0, wrong, 0), -2);
            Checks.due("drawer " + wrong, x.names(0, 0, wrong), -2);
            Checks.due("drawer " + wrong + ", missing", x.names(3, 0, wrong), -2);
        }

        Sentence.promise(32, "else as found().");
        Checks.due("missing", x.names(1, 0, 0), -6);
        howMany(x, 1);
        noNames(x, 1);
    }

    private static void look(DrawerNames x, int p, int due, long... names) {
        Checks.fill(x, 0, 3, names);
        Checks.due("look of " + p, x.look(0, p), due);
    }

    private static void lookSentences() {
        Sentence.promise(33, "The DRAWER to look at next: the greatest number of these ROWS in which the same name lies there is least,"
                + " the first.");
        Moved.alike(desk -> desk.look(3, 0), desk -> desk.look(3, 1), desk -> desk.look(3, 3));
        DrawerNames x = Checks.at(FOUR);
        look(x, 0, 1, 1);
        look(x, 0, 0, -1);
        look(x, 1, 0, 2);
        look(x, 0, 1, 1, -1, 0);
        look(x, 0, 0, 1, 2, 3);
        x = Checks.at("desk drawers 4 opens 3;next:3-tries;");
        look(x, 0, 2, -1, -1, -1);
        look(x, 0, 0, -1, 2);
        x = Checks.at("desk drawers 4 opens 3;next:tries;");
        look(x, 3, 1, 2, -1);
        look(x, 3, 2, 2, 1);
        look(x, 3, 0, 2, 1, 0);
        DrawerNames six = Checks.at("desk drawers 6 opens 6;next:5-tries;");
        look(six, 0, 2, -1, -1, -1, -1, -1);
        look(six, 0, 0, -1);
        look(six, 0, 0, 5);
        six = Checks.at("desk drawers 6 opens 6;next:tries;");
        look(six, 5, 1, 0);
        look(six, 5, 4, 0, 1, 2, 3);
        look(Checks.at("desk drawers 6 opens 2;next:tries;"), 5, 2, 0, 1);
        look(Checks.at("desk drawers 6 opens 1;next:0;"), 5, 1, 0);
        Checks.due("one drawer", oneLook(), 0);

        Sentence.promise(33, "NONE: there are none;");
        look(x, 3, -1, 2, 2);
        look(x, 3, -1, 3, -1);

        Sentence.promise(33, "as found().");
        for (int tray : NO_TRAYS) {
            Checks.due("tray " + tray, x.look(tray, 0), -2);
        }
        for (int p : NO_DRAWERS_OF_FOUR) {
            Checks.due("one " + p, x.look(0, p), -2);
            Checks.due("one " + p + ", missing", x.look(3, p), -2);
        }
        Checks.due("missing", x.look(1, 0), -6);
        howMany(x, 2);
        noNames(x, 2);
    }

    private static int oneLook() {
        DrawerNames x = new DrawerNames();
        Checks.fill(x, 0, 0, -1);
        return x.look(0, 0);
    }

    private static void clues(DrawerNames x, int due, long... sets) {
        Checks.fill(x, 0, 3, sets);
        Checks.due("clues of " + sets.length, x.clues(0), due);
    }

    private static void letOffTerms() {
        Sentence.terms(3, "LET OFF in a TRAY (1 to 8 numbers: who was, as bits, behind one NIGHT after another from now on)");
        DrawerNames x = Checks.at("desk drawers 2 opens 1;next:found+clue;night 0 1;night 1 0;");
        clues(x, 341, 0);
        clues(x, 682, 3);
        clues(x, 341, 0, 3);
        clues(x, 682, 3, 0, 3);
        clues(x, 341, 0, 3, 0, 3, 0, 3, 0, 3);
        clues(x, 0, 0, 3, 0, 3, 0, 3, 0, 0);
        clues(x, 0, 0, 0);
        x.nights(1);
        clues(x, 682, 0);

        Sentence.terms(3, ": CLUES 0 to 9 by which it is so.");
        x = Checks.at("desk drawers 1 opens 1;stops:clue=0 or clue=9;clue 4;");
        clues(x, 513, 0);
        clues(x, 510, 1);
        clues(x, 0, 1, 0);
        Checks.due("whichever it is", x.count(2), 4);
    }

    private static void cluesSentences() {
        Sentence.promise(34, "LET OFF: CLUES, as bits.");
        Moved.alike(desk -> desk.clues(2));
        for (int clue = 0; clue <= 9; clue++) {
            DrawerNames x = Checks.at("desk drawers 3 opens 1;stops:not clue=" + clue + ";");
            clues(x, 1 << clue, 7);
            clues(x, 1023 - (1 << clue), 0);
            clues(x, 0, 1);
            Checks.due("the clue stays", x.count(2), 0);
            Checks.due("nights stay", x.count(3), 0);
            Checks.due("nothing to undo", x.count(5), 0);
        }

        Sentence.promise(34, "-2: the TRAY;");
        for (int tray : NO_TRAYS) {
            Checks.due("tray " + tray, Checks.at(FOUR).clues(tray), -2);
        }

        Sentence.promise(34, "-6;");
        for (int tray = 0; tray < 4; tray++) {
            Checks.due("missing " + tray, Checks.at(FOUR).clues(tray), -6);
        }
    }

    private static void cluesRefused() {
        Sentence.promise(34, "-4: not 1 to 8 numbers;");
        DrawerNames x = Checks.at(FOUR);
        for (int n = 0; n <= 40; n++) {
            x.numbers(0, 3, n);
            if (n > 0) {
                x.write(0, 0, 99);
            }
            Checks.due("of " + n, x.clues(0), n == 0 || n > 8 ? -4 : -3);
        }

        Sentence.promise(34, "-3: one is no set of PEOPLE.");
        for (long set : new long[] {-1, -2, 16, 17, 255, 256, 1L << 32, (1L << 32) + 15, Long.MIN_VALUE, Long.MAX_VALUE}) {
            Checks.fill(x, 0, 3, set);
            Checks.due("set " + set, x.clues(0), -3);
            Checks.fill(x, 0, 3, 0, 15, 0, 15, 0, 15, 0, set);
            Checks.due("the last is " + set, x.clues(0), -3);
        }
        for (int set = 0; set < 16; set++) {
            Checks.fill(x, 0, 3, set);
            Checks.due("set " + set, x.clues(0), set == 15 ? 1023 : 0);
        }
        DrawerNames six = Checks.at("desk drawers 6 opens 1;");
        clues(six, 1023, 63);
        clues(six, -3, 64);
        clues(new DrawerNames(), 1023, 1);
        clues(new DrawerNames(), -3, 2);
    }
}
