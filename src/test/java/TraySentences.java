/** Sentences of promises 39 to 44, and in the terms of trays and images. */
final class TraySentences {
    private static final int[] NO_TRAYS = {-1, 4, 5, Integer.MIN_VALUE, Integer.MAX_VALUE};
    private static final int[] NO_IMAGES = {-1, 2, 3, Integer.MIN_VALUE, Integer.MAX_VALUE};
    private static final String THREE =
            "desk drawers 3 opens 2;name 0 1;name 1 0;night 0 1;night 1 2;night 2 0;clue 4;next:last+1;stops:tries=2;";

    private TraySentences() {
    }

    static void all() {
        trayTerms();
        numbersSentences();
        writeSentences();
        listsSentences();
        imageTerms();
        imageSentences();
        restoreSentences();
        countSentences();
    }

    private static void trayTerms() {
        Sentence.terms(3, "TRAYS 0 to 3 are MISSING at first");
        DrawerNames x = new DrawerNames();
        for (int tray = 0; tray < 4; tray++) {
            Checks.due("missing " + tray, x.write(tray, 0, 0), -6);
        }
        Checks.due("no tray 4", x.write(4, 0, 0), -2);
        Checks.due("no tray -1", x.write(-1, 0, 0), -2);

        Sentence.terms(3, "or have 0 to 40 numbers of 8 bits (sort 0), 16 (1), 32 (2), 64 (3).");
        for (int sort = 0; sort < 4; sort++) {
            for (int n : new int[] {0, 1, 39, 40}) {
                Checks.due("made", x.numbers(sort, sort, n), 0);
                Checks.due("the last", n > 0 ? x.write(sort, n - 1, 5) : 5, 5);
                Checks.due("behind the last", x.write(sort, n, 5), -7);
            }
            int bits = 8 << sort;
            long highest = 1L << (bits - 1);
            Checks.due("the highest bit", x.write(sort, 0, highest), bits == 64 ? Long.MIN_VALUE : -highest);
            Checks.due("below it", x.write(sort, 0, highest - 1), highest - 1);
            Checks.due("the lowest number", x.write(sort, 0, -highest), bits == 64 ? Long.MIN_VALUE : -highest);
            if (bits < 64) {
                Checks.due("one bit too many", x.write(sort, 0, (1L << bits) + 3), 3);
                Checks.due("below the lowest", x.write(sort, 0, -highest - 1), highest - 1);
            }
        }
    }

    private static void numbersSentences() {
        Sentence.promise(39, "A TRAY has n numbers of a sort, all 0 (in place of another one): 0.");
        DrawerNames x = new DrawerNames();
        Checks.due("made", x.numbers(0, 1, 3), 0);
        Checks.due("three nights", x.perform(0), 3);
        Checks.fill(x, 0, 1, 7, 7, 7, 7);
        Checks.due("no deeds", x.perform(0), 0);
        Checks.due("in its place", x.numbers(0, 1, 4), 0);
        Checks.due("four nights", x.perform(0), 4);
        Checks.due("in its place", x.numbers(0, 0, 0), 0);
        Checks.due("none", x.perform(0), 0);
        Checks.due("no place", x.write(0, 0, 1), -7);
        Checks.due("of another sort", x.numbers(0, 3, 1), 0);
        Checks.due("64 bits", x.write(0, 0, 1L << 50), 1L << 50);
        Checks.due("of another sort", x.numbers(0, 0, 1), 0);
        Checks.due("8 bits", x.write(0, 0, 1L << 50), 0);
        Checks.due("forty", x.numbers(0, 0, 40), 0);
        Checks.due("forty nights", x.perform(0), 40);
        Checks.due("the others are missing still", x.perform(1), -6);

        Sentence.promise(39, "-2: no such TRAY, sort;");
        for (int tray : NO_TRAYS) {
            Checks.due("tray " + tray, x.numbers(tray, 0, 1), -2);
            Checks.due("tray " + tray + " ahead of n", x.numbers(tray, 0, 41), -2);
        }
        for (int sort : NO_TRAYS) {
            Checks.due("sort " + sort, x.numbers(0, sort, 1), -2);
            Checks.due("sort " + sort + " ahead of n", x.numbers(0, sort, -1), -2);
        }
        Checks.due("forty nights still", x.perform(0), 40);

        Sentence.promise(39, "-3, and the TRAY stays: n is below 0 or above 40.");
        Checks.fill(x, 2, 1, 0, 300, 0);
        for (int n : new int[] {-1, 41, 42, Integer.MIN_VALUE, Integer.MAX_VALUE}) {
            Checks.due("of " + n, x.numbers(2, 0, n), -3);
            Checks.due("it stays", x.judge(2, 0), 1);
            Checks.due("its last stays", x.write(2, 2, 300), 300);
            Checks.due("it stays missing", x.numbers(3, 0, n), -3);
            Checks.due("missing", x.perform(3), -6);
        }
    }

    private static void writeSentences() {
        Sentence.promise(40, "Number i of a TRAY is v, cut to its sort: as it is there.");
        DrawerNames x = Checks.at("desk drawers 2 opens 1;");
        long v = 0x1234_5678_9ABC_DEF0L;
        long[] cut = {-16, -8464, -1698898192, v};
        for (int sort = 0; sort < 4; sort++) {
            x.numbers(sort, sort, 40);
            for (int i : new int[] {0, 1, 20, 39}) {
                Checks.due("sort " + sort + " at " + i, x.write(sort, i, v), cut[sort]);
            }
        }
        Checks.fill(x, 0, 0, 0, 0, 0);
        Checks.due("a clue", x.write(0, 1, 256 + 13), 13);
        Checks.due("it is there", x.perform(0), 3);
        Checks.due("clue", x.count(2), 3);
        Checks.due("two nights", x.count(3), 2);

        Sentence.promise(40, "-2: no such TRAY;");
        for (int tray : NO_TRAYS) {
            Checks.due("tray " + tray, x.write(tray, 0, 1), -2);
            Checks.due("tray " + tray + " ahead of i", x.write(tray, -1, 1), -2);
        }

        Sentence.promise(40, "-6;");
        DrawerNames y = new DrawerNames();
        for (int tray = 0; tray < 4; tray++) {
            Checks.due("missing " + tray, y.write(tray, 0, 1), -6);
            Checks.due("missing " + tray + " ahead of i", y.write(tray, -1, 1), -6);
        }

        Sentence.promise(40, "-7.");
        for (int n : new int[] {0, 1, 5, 40}) {
            y.numbers(0, 2, n);
            for (int i : new int[] {-1, n, n + 1, 40, 41, Integer.MIN_VALUE, Integer.MAX_VALUE}) {
                Checks.due("of " + n + " number " + i, y.write(0, i, 1), -7);
            }
            Checks.due("all 0 still", y.judge(0, 0), -1);
        }
    }

    private static void listsSentences() {
        Sentence.promise(41, "Names of the ROW of a number, DRAWER by DRAWER, come into a TRAY, as far as it has places: how many.");
        int[] names = {0, 1, 2, 3, 4, 5};
        for (int number = 0; number < 720; number++) {
            if (number % 29 == 0 || number == 719 || number < 3) {
                listed(number, names);
            }
            nextRow(names);
        }
        DrawerNames x = Checks.at("desk drawers 4 opens 4;next:tries;");
        for (int places = 0; places <= 40; places++) {
            x.numbers(0, 3, places);
            Checks.due("places " + places, x.lists(0, 23), Math.min(places, 4));
        }
        Checks.fill(x, 1, 1, 9, 9);
        Checks.due("two places", x.lists(1, 23), 2);
        Checks.due("3 and 2", x.names(1, 0, 0), 8);
        Checks.due("3 and 2", x.names(1, 0, 1), 4);
        DrawerNames one = new DrawerNames();
        Checks.fill(one, 0, 1, 7, 15, 0);
        Checks.due("one name", one.lists(0, 0), 1);
        Checks.due("the others stay", one.perform(0), 3);
        Checks.due("clue", one.count(2), 5);

        Sentence.promise(41, "-2: the TRAY;");
        for (int tray : NO_TRAYS) {
            Checks.due("tray " + tray, x.lists(tray, 0), -2);
            Checks.due("tray " + tray + " ahead of the number", x.lists(tray, -1), -2);
        }

        Sentence.promise(41, "-6;");
        DrawerNames y = Checks.at("desk drawers 4 opens 4;");
        for (int tray = 0; tray < 4; tray++) {
            Checks.due("missing " + tray, y.lists(tray, 0), -6);
            Checks.due("missing " + tray + " ahead of the number", y.lists(tray, 24), -6);
        }

        Sentence.promise(41, "-3: the number.");
        int[] rows = {1, 2, 6, 24, 120, 720};
        for (int n = 1; n <= 6; n++) {
            DrawerNames z = Checks.at("desk drawers " + n + " opens 1;");
            z.numbers(0, 0, 6);
            for (int wrong : new int[] {-1, rows[n - 1], rows[n - 1] + 1, Integer.MIN_VALUE, Integer.MAX_VALUE}) {
                Checks.due("row " + wrong + " of " + n, z.lists(0, wrong), -3);
            }
            Checks.due("the tray stays", z.judge(0, 0), -1);
            Checks.due("the last one", z.lists(0, rows[n - 1] - 1), n);
            Checks.due("the first one", z.lists(0, 0), n);
        }
    }

    /** One who opens drawer by drawer and whose name lies last has found the whole row. */
    private static void listed(int number, int[] names) {
        DrawerNames x = Checks.at("desk drawers 6 opens 6;next:tries;");
        x.numbers(2, 0, 6);
        Checks.due("lists " + number, x.lists(2, number), 6);
        Checks.due("one row", x.found(2, names[5]), 1);
        for (int d = 0; d < 6; d++) {
            Checks.due("row " + number + " in " + d, x.names(2, names[5], d), 1 << names[d]);
        }
    }

    private static void nextRow(int[] names) {
        int d = names.length - 2;
        while (d >= 0 && names[d] > names[d + 1]) {
            d--;
        }
        if (d < 0) {
            return;
        }
        int e = names.length - 1;
        while (names[e] < names[d]) {
            e--;
        }
        exchange(names, d, e);
        for (int i = d + 1, k = names.length - 1; i < k; i++, k--) {
            exchange(names, i, k);
        }
    }

    private static void exchange(int[] names, int d, int e) {
        int kept = names[d];
        names[d] = names[e];
        names[e] = kept;
    }

    /** The desk THREE behind one night and clue 6. */
    private static void isThree(DrawerNames x) {
        Checks.due("0 and 2 are let off", x.letOff(), 5);
        int[] counts = {3, 2, 6, 1, 2};
        for (int what = 0; what < counts.length; what++) {
            Checks.due("count " + what, x.count(what), counts[what]);
        }
        Checks.due("lines", x.count(7), 9);
        Checks.due("rows", x.count(8), 6);
        int[] names = {2, 1, 0};
        int[] goes = {1, 2, 0};
        int[] opens = {1, 2, 0};
        for (int d = 0; d < 3; d++) {
            Checks.due("in " + d, x.drawer(d, 0), names[d]);
            Checks.due("from " + d, x.drawer(d, 1), goes[d]);
            Checks.due("first by " + d, x.opened(d, 0), opens[d]);
        }
        Checks.due("its law stops", x.visit(0, 1), 2);
    }

    private static DrawerNames pictured(int i) {
        DrawerNames x = Checks.at(THREE);
        x.nights(1);
        x.clue(6);
        Checks.due("an image is made", x.image(i), 0);
        return x;
    }

    private static void imageTerms() {
        Sentence.terms(3, "IMAGES 0 to 1: THE DESK and what a call could bring back by UNDOING;");
        for (int i = 0; i < 2; i++) {
            DrawerNames x = pictured(i);
            Checks.tell(x, "desk drawers 6 opens 9;clue 8;next:0;stops:1=2;night 0 5;night 5 0;");
            x.nights(7);
            x.swap(0, 5);
            Checks.due("restored", x.restore(i), 0);
            isThree(x);
        }
        DrawerNames x = pictured(0);
        x.numbers(0, 0, 2);
        Checks.tell(x, "desk drawers 7");
        x.feed(0, 0, 0, 0, 0);
        x.restore(0);
        Checks.due("trays aren't in it", x.perform(0), 2);
        Checks.due("nor the tape", x.count(6), 20);
        Checks.due("nor the fault", x.fault(0), 3);

        Sentence.terms(3, "nothing can be UNDONE behind (none at first).");
        DrawerNames y = new DrawerNames();
        Checks.due("none at first", y.restore(0), -5);
        Checks.due("none at first", y.restore(1), -5);
        y = pictured(1);
        Checks.due("what can be undone stays", y.count(5), 2);
        y.swap(0, 1);
        y.restore(1);
        Checks.due("nothing", y.count(5), 0);
        Checks.due("nothing", y.undo(1), -3);
        y.swap(0, 1);
        Checks.due("what was done behind", y.undo(1), 0);
        isThree(y);
    }

    private static void imageSentences() {
        Sentence.promise(42, "An IMAGE is made: 0.");
        DrawerNames x = pictured(0);
        isThree(x);
        Checks.due("what can be undone", x.count(5), 2);
        x.clue(1);
        Checks.due("made anew", x.image(0), 0);
        x.clue(2);
        x.restore(0);
        Checks.due("the later one", x.count(2), 1);
        x.clue(3);
        Checks.due("the other one", x.image(1), 0);
        x.restore(0);
        Checks.due("of the first", x.count(2), 1);
        x.restore(1);
        Checks.due("of the second", x.count(2), 3);
        DrawerNames bare = new DrawerNames();
        Checks.due("without a text", bare.image(1), 0);
        Checks.tell(bare, THREE);
        bare.restore(1);
        Checks.due("drawers", bare.count(0), 1);
        Checks.due("lines", bare.count(7), 0);

        Sentence.promise(42, "-2.");
        for (int i : NO_IMAGES) {
            Checks.due("image " + i, x.image(i), -2);
        }
    }

    private static void restoreSentences() {
        Sentence.promise(43, "All that is in an IMAGE is as it was: 0.");
        DrawerNames x = pictured(1);
        x.nights(5);
        x.clue(1);
        x.swap(1, 2);
        Checks.due("restored", x.restore(1), 0);
        isThree(x);
        Checks.tell(x, "desk drawers 5 opens 1;");
        Checks.due("restored again", x.restore(1), 0);
        isThree(x);
        Checks.due("at once again", x.restore(1), 0);
        isThree(x);

        Sentence.promise(43, "-2;");
        for (int i : NO_IMAGES) {
            Checks.due("image " + i, x.restore(i), -2);
        }

        Sentence.promise(43, "-5: none was made.");
        Checks.due("the other one", x.restore(0), -5);
        isThree(x);
        x.clue(3);
        Checks.due("the other one", x.restore(0), -5);
        Checks.due("what can be undone stays", x.undo(1), 0);
    }

    private static void countSentences() {
        DrawerNames one = new DrawerNames();
        DrawerNames six = Checks.at("desk drawers 6 opens 9;clue 9;name 0 1;name 1 2;name 2 3;name 3 4;name 4 5;name 5 0;");
        six.nights(99);
        six.feed(0, 0, 0, 0, 0);

        counted("0 DRAWERS", 0, one, 1, six, 6);
        counted("1 how many may be opened", 1, one, 1, six, 9);
        counted("2 CLUE", 2, one, 0, six, 9);
        counted("3 NIGHTS", 3, one, 0, six, 99);
        counted("4 how many are LET OFF", 4, one, 1, six, 6);
        six.clue(0);
        for (int i = 0; i < 12; i++) {
            six.swap(0, 1);
        }
        counted("5 calls that can be UNDONE", 5, one, 0, six, 10);
        for (int i = 0; i < 50; i++) {
            six.feed(0, 0, 0, 0, 0);
        }
        counted("6 bytes on THE TAPE", 6, one, 0, six, 900);
        counted("7 LINES", 7, one, 0, six, 8);
        counted("8 how many ROWS there can be.", 8, one, 1, six, 720);
        int[] rows = {1, 2, 6, 24, 120, 720};
        for (int n = 1; n <= 6; n++) {
            Checks.due("rows of " + n, Checks.at("desk drawers " + n + " opens 1;").count(8), rows[n - 1]);
        }

        Sentence.promise(44, "NONE for others.");
        for (int what : new int[] {-1, 9, 10, Integer.MIN_VALUE, Integer.MAX_VALUE}) {
            Checks.due("what " + what, six.count(what), -1);
        }
    }

    private static void counted(String words, int what, DrawerNames one, int least, DrawerNames six, int most) {
        Sentence.promise(44, words);
        Checks.due("of a new object", one.count(what), least);
        Checks.due("of six", six.count(what), most);
    }
}
