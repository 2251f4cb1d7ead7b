/** Sentences of promises 1 to 8 and, in the terms, part 2, of rows, visits and laws. */
final class VisitSentences {
    /** 23 bytes. */
    private static final String TWO = "desk drawers 2 opens 1;";
    private static final int[] NO_DRAWERS_OF_THREE = {-1, 3, 4, 6, Integer.MIN_VALUE, Integer.MAX_VALUE};
    private static final int[] NO_WHATS_OF_TWO = {-1, 2, 3, Integer.MIN_VALUE, Integer.MAX_VALUE};

    private VisitSentences() {
    }

    static void all() {
        newObject();
        tapeSentences();
        deskSentences();
        faultSentences();
        drawerSentences();
        visitTerms();
        factSentences();
        keptSums();
        ifTells();
        visitSentences();
        openedSentences();
        letOff();
    }

    private static void newObject() {
        Sentence.promise(1, "1 DRAWER.");
        DrawerNames x = new DrawerNames();
        Checks.due("drawers", x.count(0), 1);
        Checks.due("drawer 0", x.drawer(0, 0), 0);
        Checks.due("no drawer 1", x.drawer(1, 0), -2);
        Checks.due("rows", x.count(8), 1);
        Checks.due("nights", x.count(3), 0);
        Checks.due("nothing can be undone", x.count(5), 0);
        Checks.due("no bytes", x.count(6), 0);
        Checks.due("no swaps", x.swap(0, 1), -11);
    }

    private static void tapeSentences() {
        Sentence.promise(2, "Twenty bytes come behind those on THE TAPE, the highest of each int first: how many it has.");
        DrawerNames x = new DrawerNames();
        Checks.due("the first", x.feed(0x6465736B, 0x20647261, 0x77657273, 0x2032206F, 0x70656E73), 20);
        Checks.due("behind", x.feed(0x20313B63, 0x6C756520, 0x373B2020, 0x20202020, 0x20202020), 40);
        Checks.due("desk drawers 2 opens 1;clue 7;", x.desk(30), 2);
        Checks.due("clue", x.count(2), 7);
        Checks.due("from the front again", x.feed(0x2020203F, 0, 0, 0, 0), 20);
        Checks.due("the lowest last", x.desk(20), -31);
        Checks.due("a ? in the fourth byte", x.fault(1), 3);
        Checks.due("above 127", x.feed(0x20202020, 0x20202020, 0x20202020, 0x20202020, 0x2020FF20), 20);
        Checks.due("no token", x.desk(20), -31);
        Checks.due("in the nineteenth", x.fault(1), 18);

        Sentence.promise(2, "-5: it would have more than 900.");
        DrawerNames y = new DrawerNames();
        for (int i = 1; i <= 45; i++) {
            Checks.due("feed " + i, y.feed(0x20202020, 0x20202020, 0x20202020, 0x20202020, 0x20202020), 20 * i);
        }
        Checks.due("feed 46", y.feed(-1, -1, -1, -1, -1), -5);
        Checks.due("feed 47", y.feed(0, 0, 0, 0, 0), -5);
        Checks.due("just 900", y.count(6), 900);
        Checks.due("all blanks still", y.desk(900), -32);
        Checks.due("up to the end", y.fault(1), 900);
        Checks.due("now there is room", y.feed(0, 0, 0, 0, 0), 20);
    }

    private static void deskSentences() {
        Sentence.promise(3, "The first n bytes of THE TAPE (which is empty then) are THE DESK");
        DrawerNames x = new DrawerNames();
        Checks.feed(x, "desk drawers 3 opens 1;clue 7;clue 8;");
        Checks.due("not all", x.desk(30), 2);
        Checks.due("the rest isn't read", x.count(2), 7);
        Checks.due("the tape is empty", x.count(6), 0);
        Checks.due("nothing is left", x.desk(1), -3);
        Checks.feed(x, "desk drawers 4 opens 1;?");
        Checks.due("just before what is no token", x.desk(23), 1);
        Checks.feed(x, "desk drawers 5 opens 2;                 ");
        Checks.due("all there is", x.desk(40), 1);
        Checks.due("drawers", x.count(0), 5);
        Checks.feed(x, "desk drawers 6 opens 2;");
        Checks.due("no bytes", x.desk(0), -32);
        Checks.due("empty then, too", x.count(6), 0);

        asNewOnes("desk drawers 3 opens 2;clue 8;name 0 1;name 1 0;next:found+1;stops:tries=1;", "desk drawers 6 opens 3;night 0 5;night 5 0;",
                "desk drawers 2 opens 1;next:found+clue;", "desk drawers 4 opens 9;next:tries*3;stops:me=1;");
        asNewOnes("desk drawers 1 opens 1;", "desk drawers 5 opens 2;next:me+clue*tries;clue 3;", "desk drawers 5 opens 2;clue 1;",
                "desk drawers 4 opens 2;next:found+clue;name 0 3;name 3 0;");
        asNewOnes("desk drawers 6 opens 9;next:1;", "desk drawers 5 opens 9;next:2;", "desk drawers 6 opens 2;next:found+clue;",
                "desk drawers 3 opens 2;next:last+clue;");
        asNewOnes("desk drawers 4 opens 1;", "desk drawers 5 opens 1;next:found+clue;", "desk drawers 6 opens 1;next:found+clue;",
                "desk drawers 6 opens 9;next:found+clue;stops:tries=8;");

        Sentence.promise(3, "NIGHTS are 0");
        x = Checks.at("desk drawers 2 opens 1;");
        x.nights(99);
        Checks.due("nights", x.count(3), 99);
        Checks.tell(x, TWO);
        Checks.due("nights anew", x.count(3), 0);

        Sentence.promise(3, "nothing can be UNDONE");
        x.nights(1);
        x.clue(1);
        Checks.tell(x, TWO);
        Checks.due("none", x.count(5), 0);
        Checks.due("not one", x.undo(1), -3);

        linesAndFaults();
        noSuchLength();

        Sentence.promise(3, "-30 less the FAULT.");
        Checks.due("kind 1", Checks.tell(new DrawerNames(), "?"), -31);
        Checks.due("kind 2", Checks.tell(new DrawerNames(), "desk"), -32);
        Checks.due("kind 3", Checks.tell(new DrawerNames(), "desk drawers 7"), -33);
        Checks.due("kind 4", Checks.tell(new DrawerNames(), TWO + "next:((((((("), -34);
    }

    /** One object is told desk behind desk, and answers as a new one that was told the last alone. */
    private static void asNewOnes(String... texts) {
        DrawerNames x = new DrawerNames();
        for (String text : texts) {
            DrawerNames y = new DrawerNames();
            Checks.due("lines of " + text, Checks.tell(x, text), Checks.tell(y, text));
            Checks.due("clue of " + text, x.count(2), y.count(2));
            for (int clue : new int[] {x.count(2), 9, 2}) {
                x.clue(clue);
                y.clue(clue);
                asAnother(text + " by clue " + clue, x, y);
            }
        }
    }

    private static void asAnother(String words, DrawerNames x, DrawerNames y) {
        Checks.due("row of " + words, x.lies(0), y.lies(0));
        Checks.due("letOff of " + words, x.letOff(), y.letOff());
        for (int what = 0; what < 5; what++) {
            Checks.due("count " + what + " of " + words, x.count(what), y.count(what));
            Checks.due("just " + what + " of " + words, x.just(what), y.just(what));
        }
        Checks.due("night of " + words, x.at(1), y.at(1));
        for (int aim = 0; aim < 2; aim++) {
            Checks.due("fewest of " + words, x.fewest(aim), y.fewest(aim));
            Checks.due("way of " + words, x.way(aim, 0), y.way(aim, 0));
            Checks.due("rows of " + words, x.rows(aim, 3), y.rows(aim, 3));
            Checks.due("best of " + words, x.best(aim), y.best(aim));
            Checks.due("chance of " + words, x.chance(aim, 3, 0), y.chance(aim, 3, 0));
        }
    }

    private static void linesAndFaults() {
        Sentence.promise(3, ": how many LINES (desk, too; all stays with a FAULT).");
        DrawerNames x = new DrawerNames();
        Checks.due("desk alone", Checks.tell(x, TWO), 1);
        Checks.due("five", Checks.tell(x, "desk drawers 3 opens 2;name 0 1;name 1 0;clue 6;night 0 1;night 1 0;next:found+1;"
                + "stops:tries=1;"), 8);
        x.nights(3);
        x.clue(4);
        x.image(0);
        x.numbers(0, 0, 3);
        int[] counts = new int[9];
        for (int what = 0; what < 9; what++) {
            counts[what] = x.count(what);
        }
        int letOff = x.letOff();
        int row = x.lies(0);
        String[] texts = {"", "desk drawers 5", "desk drawers 5 opens 5;name 0 1;", "desk drawers 6 opens 9;clue 1;clue 11;",
            "desk drawers 4 opens 1;next:1;stops:1=1;?", "desk drawers 2 opens 1;next:(((((((1;"};
        for (String text : texts) {
            Checks.holds("a fault: " + text, Checks.tell(x, text) < -30);
            for (int what = 0; what < 9; what++) {
                Checks.due("count " + what + " behind " + text, x.count(what), counts[what]);
            }
            Checks.due("letOff behind " + text, x.letOff(), letOff);
            Checks.due("row behind " + text, x.lies(0), row);
            Checks.due("night behind " + text, x.drawer(0, 1), 1);
            Checks.due("opened behind " + text, x.opened(2, 0), 0);
            Checks.due("the tray behind " + text, x.judge(0, 0), -1);
        }
        Checks.due("what could be undone", x.undo(1), 1);
        Checks.due("clue", x.count(2), 6);
        Checks.due("what could be undone", x.undo(1), 0);
        Checks.due("nights", x.count(3), 0);
        Checks.due("the image", x.restore(0), 0);
        Checks.due("nights", x.count(3), 3);
    }

    private static void noSuchLength() {
        Sentence.promise(3, "-3: n is below 0 or above what there is (THE TAPE stays);");
        DrawerNames x = new DrawerNames();
        Checks.due("above nothing", x.desk(1), -3);
        Checks.feed(x, TWO + "clue 7;");
        for (int n : new int[] {-1, 41, 900, 901, Integer.MIN_VALUE, Integer.MAX_VALUE}) {
            Checks.due("desk " + n, x.desk(n), -3);
            Checks.due("the tape behind " + n, x.count(6), 40);
        }
        Checks.due("no text was read", x.fault(0), 0);
        Checks.due("what there is", x.desk(40), 2);
        Checks.due("clue", x.count(2), 7);
    }

    private static void faultSentences() {
        Sentence.promise(4, "Of the latest desk() that was read, what 0: its FAULT (0), 1: its place (NONE).");
        DrawerNames x = new DrawerNames();
        Checks.due("none was read", x.fault(0), 0);
        Checks.due("none was read, place", x.fault(1), -1);
        Checks.tell(x, "desk drawers 7");
        Checks.due("kind", x.fault(0), 3);
        Checks.due("place", x.fault(1), 13);
        x.desk(-1);
        x.desk(99);
        Checks.due("refused ones weren't read", x.fault(0), 3);
        Checks.due("refused ones weren't read, place", x.fault(1), 13);
        Checks.tell(x, "?");
        Checks.due("a later kind", x.fault(0), 1);
        Checks.due("place 0", x.fault(1), 0);
        Checks.tell(x, TWO);
        Checks.due("no fault", x.fault(0), 0);
        Checks.due("no place", x.fault(1), -1);

        Sentence.promise(4, "NONE for others.");
        for (int what : new int[] {-1, 2, 3, Integer.MIN_VALUE, Integer.MAX_VALUE}) {
            Checks.due("fault " + what, x.fault(what), -1);
        }
        Checks.tell(x, "?");
        for (int what : new int[] {-1, 2, 3, Integer.MIN_VALUE, Integer.MAX_VALUE}) {
            Checks.due("fault " + what, x.fault(what), -1);
        }
    }

    private static void drawerSentences() {
        Sentence.promise(5, "Of a DRAWER, what 0: whose name lies there, 1: into which one it goes by NIGHT.");
        DrawerNames x = Checks.at("desk drawers 3 opens 1;name 0 1;name 1 2;name 2 0;night 1 2;night 2 1;");
        int[] names = {1, 2, 0};
        int[] goes = {0, 2, 1};
        for (int d = 0; d < 3; d++) {
            Checks.due("in " + d, x.drawer(d, 0), names[d]);
            Checks.due("from " + d, x.drawer(d, 1), goes[d]);
        }
        x.swap(0, 2);
        Checks.due("now", x.drawer(0, 0), 0);
        Checks.due("now", x.drawer(2, 0), 1);
        Checks.due("swaps change no nights", x.drawer(2, 1), 1);

        Sentence.promise(5, "-2.");
        for (int d : NO_DRAWERS_OF_THREE) {
            Checks.due("drawer " + d, x.drawer(d, 0), -2);
            Checks.due("drawer " + d, x.drawer(d, 1), -2);
        }
        for (int what : NO_WHATS_OF_TWO) {
            Checks.due("what " + what, x.drawer(0, what), -2);
        }
    }

    private static void visitTerms() {
        Sentence.terms(2, "A ROW of NAMES tells which name lies in which DRAWER.");
        DrawerNames x = Checks.at("desk drawers 4 opens 4;name 0 2;name 2 3;name 3 0;");
        int[] names = {2, 1, 3, 0};
        for (int d = 0; d < 4; d++) {
            Checks.due("in " + d, x.drawer(d, 0), names[d]);
        }

        Sentence.terms(2, "A VISIT of one of the PEOPLE: as long as it hasn't found its own name");
        Checks.due("a round of three", x.visit(0, 1), 3);
        Checks.due("its own at once", x.visit(1, 1), 1);
        Checks.tell(x, "desk drawers 2 opens 9;name 0 1;name 1 0;next:tries;");
        Checks.due("what it found at first isn't found by opening", x.visit(0, 1), 2);
        Checks.due("it stops there", x.visit(1, 1), 1);

        Sentence.terms(2, "fewer are opened than may be");
        for (int opens = 1; opens <= 9; opens++) {
            Checks.tell(x, "desk drawers 6 opens " + opens + ";name 0 1;name 1 2;name 2 3;name 3 4;name 4 5;name 5 0;");
            Checks.due("of " + opens, x.visit(0, 1), Math.min(opens, 6));
            Checks.due("let off of " + opens, x.visit(0, 0), opens >= 6 ? 1 : 0);
        }

        Sentence.terms(2, "and the law stops doesn't hold (without one: never)");
        Checks.tell(x, "desk drawers 3 opens 9;next:me+1;");
        Checks.due("never", x.visit(0, 1), 9);
        for (int most = 0; most <= 9; most++) {
            Checks.tell(x, "desk drawers 3 opens 9;next:me+1;stops:tries=" + most + ";");
            Checks.due("stops at " + most, x.visit(0, 1), most);
        }
        Checks.tell(x, "desk drawers 3 opens 9;stops:tries=0;");
        Checks.due("ahead of the first one, too", x.letOff(), 0);
        Checks.tell(x, "desk drawers 3 opens 9;stops:tries=1;");
        Checks.due("its own name is found ahead", x.letOff(), 7);

        Sentence.terms(2, "it opens the DRAWER that is the rest of what the law next tells by how many there are"
                + " (0 or more, of a number below 0, too; without one: found)");
        int[] told = {0, 1, 2, 3, 4, 999};
        for (int v : told) {
            Checks.tell(x, "desk drawers 3 opens 1;next:" + v + ";");
            Checks.due("by " + v, x.opened(0, 0), v % 3);
            Checks.tell(x, "desk drawers 3 opens 1;next:0-" + v + ";");
            Checks.due("by -" + v, x.opened(0, 0), (999 - v) % 3);
        }
        Checks.tell(x, "desk drawers 1 opens 1;next:999;");
        Checks.due("of one drawer", x.opened(0, 0), 0);
        Checks.tell(x, "desk drawers 3 opens 3;name 0 1;name 1 2;name 2 0;");
        Checks.due("its own number first", x.opened(1, 0), 1);
        Checks.due("then what it found", x.opened(1, 1), 2);
        Checks.due("then what it found", x.opened(1, 2), 0);

        Sentence.terms(2, "one it opened ahead, too (that counts).");
        Checks.tell(x, "desk drawers 3 opens 4;next:2;");
        Checks.due("four times", x.visit(0, 1), 4);
        for (int i = 0; i < 4; i++) {
            Checks.due("time " + i, x.opened(0, i), 2);
        }

        Sentence.terms(2, "It is LET OFF if it finds its own name.");
        Checks.tell(x, "desk drawers 3 opens 2;next:tries;");
        Checks.due("0 and 1 do, 2 doesn't", x.letOff(), 3);
        Checks.due("by the last it may open", x.visit(1, 0), 1);
        Checks.due("one too few", x.visit(2, 0), 0);
        Checks.tell(x, "desk drawers 2 opens 1;stops:1=1;");
        Checks.due("found at first is no find", x.letOff(), 0);
    }

    /** Of four drawers, five to be opened: the laws by all facts, and the same by hand. */
    private static final String ALL_FACTS =
            "next:me*2+found*3+last*5+tries*7+clue;stops:me+found+last+tries*2+clue=11;";

    private static boolean isLetOff(int[] names, int p, int clue, StringBuilder opened) {
        int found = p;
        int last = p;
        for (int tries = 0; tries < 5 && p + found + last + tries * 2 + clue != 11; tries++) {
            last = (p * 2 + found * 3 + last * 5 + tries * 7 + clue) % 4;
            found = names[last];
            opened.append(last);
            if (found == p) {
                return true;
            }
        }
        return false;
    }

    private static void bothLaws() {
        Sentence.terms(2, "In both laws:");
        int[][] letOff = new int[10][4];
        for (int number = 0; number < 256; number++) {
            int[] names = {number >> 6, number >> 4 & 3, number >> 2 & 3, number & 3};
            if ((1 << names[0] | 1 << names[1] | 1 << names[2] | 1 << names[3]) == 15) {
                visitsOf(names, letOff);
            }
        }
        DrawerNames x = Checks.at("desk drawers 4 opens 5;" + ALL_FACTS);
        for (int clue = 0; clue < 10; clue++) {
            x.clue(clue);
            x.letOff();
            for (int p = 0; p < 4; p++) {
                Checks.due("rows of " + p + " by clue " + clue, x.ofOne(p), letOff[clue][p]);
            }
        }
    }

    private static void visitsOf(int[] names, int[][] letOff) {
        DrawerNames x = Checks.at("desk drawers 4 opens 5;name 0 " + names[0] + ";name 1 " + names[1] + ";name 2 " + names[2]
                + ";name 3 " + names[3] + ";" + ALL_FACTS);
        for (int clue = 0; clue < 10; clue++) {
            x.clue(clue);
            for (int p = 0; p < 4; p++) {
                StringBuilder opened = new StringBuilder();
                boolean free = isLetOff(names, p, clue, opened);
                letOff[clue][p] += free ? 1 : 0;
                Checks.due("let off " + p, x.visit(p, 0), free ? 1 : 0);
                Checks.due("how many " + p, x.visit(p, 1), opened.length());
                int most = opened.length();
                Checks.due("the last of " + p, x.opened(p, most - 1 < 0 ? 0 : most - 1),
                        most == 0 ? -1 : opened.charAt(most - 1) - '0');
            }
        }
    }

    private static void factSentences() {
        bothLaws();

        Sentence.terms(2, "me: its number;");
        DrawerNames x = Checks.at("desk drawers 6 opens 1;next:me*5;");
        for (int p = 0; p < 6; p++) {
            Checks.due("next of " + p, x.opened(p, 0), p * 5 % 6);
        }
        Checks.tell(x, "desk drawers 6 opens 1;stops:me=0 or me=5;");
        Checks.due("stops", x.letOff(), 30);

        Sentence.terms(2, "found: the name it found last (its own number at first);");
        Checks.tell(x, "desk drawers 4 opens 3;name 0 2;name 2 1;name 1 0;next:found;");
        Checks.due("first", x.opened(0, 0), 0);
        Checks.due("second", x.opened(0, 1), 2);
        Checks.due("third", x.opened(0, 2), 1);
        Checks.tell(x, "desk drawers 4 opens 3;name 0 2;name 2 1;name 1 0;stops:found=2;");
        Checks.due("one at first is 2", x.visit(2, 1), 0);
        Checks.due("one found 2", x.visit(0, 1), 1);
        Checks.due("one found 2 behind 0", x.visit(1, 1), 2);

        Sentence.terms(2, "last: the DRAWER it opened last (its own number at first);");
        Checks.tell(x, "desk drawers 4 opens 3;name 0 2;name 2 1;name 1 0;next:last+1;");
        Checks.due("first", x.opened(0, 0), 1);
        Checks.due("let off by it", x.visit(0, 1), 1);
        Checks.due("of 2", x.opened(2, 0), 3);
        Checks.due("of 2", x.opened(2, 1), 0);
        Checks.tell(x, "desk drawers 4 opens 3;name 0 2;name 2 1;name 1 0;stops:last=2;");
        Checks.due("one at first is 2", x.visit(2, 1), 0);
        Checks.due("one opened 2", x.visit(0, 1), 2);

        Sentence.terms(2, "tries: how many it opened;");
        Checks.tell(x, "desk drawers 6 opens 9;name 0 5;name 5 0;next:tries;");
        for (int i = 0; i < 6; i++) {
            Checks.due("next " + i, x.opened(0, i), i);
        }
        Checks.tell(x, "desk drawers 6 opens 9;next:me+1;stops:tries=8;");
        Checks.due("stops", x.visit(0, 1), 8);

        Sentence.terms(2, "clue: the CLUE.");
        Checks.tell(x, "desk drawers 6 opens 1;clue 9;next:clue;stops:clue=3;");
        Checks.due("next by 9", x.opened(0, 0), 3);
        x.clue(4);
        Checks.due("next by 4", x.opened(0, 0), 4);
        x.clue(3);
        Checks.due("stops by 3", x.visit(0, 1), 0);
        x.undo(1);
        Checks.due("next by 4 again", x.opened(0, 0), 4);
    }

    /** What a sum tells, by the drawer of six that it opens, and as itself. */
    private static void tells(String sum, int value) {
        DrawerNames x = Checks.at("desk drawers 6 opens 1;next:" + sum + ";");
        Checks.due(sum, x.opened(0, 0), Math.floorMod(value, 6));
        int thousands = Math.abs(value) / 1000;
        String size = "(999+1)*(" + thousands / 2 + "+" + (thousands - thousands / 2) + ")+" + Math.abs(value) % 1000;
        x = Checks.at("desk drawers 6 opens 1;stops:" + sum + "=" + (value < 0 ? "0-(" + size + ")" : size) + ";");
        Checks.due(sum + " itself", x.visit(0, 1), 0);
    }

    private static void keptSums() {
        Sentence.terms(2, "Each + - * is kept from -1,000,000 to 1,000,000;");
        tells("999*999+999+999", 999999);
        tells("999*999+999+999+1", 1000000);
        tells("999*999+999+999+2", 1000000);
        tells("999*999+999+999+2-1", 999999);
        tells("0-999*999-999-999", -999999);
        tells("0-999*999-999-999-1", -1000000);
        tells("0-999*999-999-999-2", -1000000);
        tells("0-999*999-999-999-2+1", -999999);
        tells("999*999*2", 1000000);
        tells("999*999*2-1", 999999);
        tells("999*999*(0-2)", -1000000);
        tells("999*999*(0-2)+1", -999999);
        tells("(0-999*999*999)*(0-999*999*999)-1", 999999);
        tells("999*999*999-999*999*999", 0);
        tells("0-999*999*999-999*999*999+1", -999999);
        tells("500*500*4", 1000000);
        tells("500*500*4+1-1", 999999);
    }

    private static void ifTells() {
        Sentence.terms(2, "if tells the one SUM, if the TRUTH holds, else the other one.");
        tells("if 1<2 then 3 else 4 end", 3);
        tells("if 2<1 then 3 else 4 end", 4);
        tells("if me=0 then if me=1 then 1 else 2 end else 3 end", 2);
        tells("if me=1 then 1 else if me=0 then 4 else 3 end end", 4);
        tells("5-if 1=1 then 3 else 4 end", 2);
    }

    private static void visitSentences() {
        Sentence.promise(6, "A VISIT of one now, what 0: 1 if it is LET OFF, else 0, 1: how many it opens.");
        Moved.alike(desk -> desk.visit(0, 0), desk -> desk.visit(1, 0), desk -> desk.visit(2, 1), desk -> desk.visit(3, 1));
        DrawerNames x = Checks.at("desk drawers 3 opens 2;name 0 1;name 1 2;name 2 0;");
        for (int p = 0; p < 3; p++) {
            Checks.due("not let off " + p, x.visit(p, 0), 0);
            Checks.due("two of " + p, x.visit(p, 1), 2);
        }
        x.swap(0, 1);
        Checks.due("now", x.visit(1, 0), 1);
        Checks.due("now", x.visit(1, 1), 1);
        Checks.due("now", x.visit(0, 0), 1);
        Checks.due("now", x.visit(0, 1), 2);
        Checks.tell(x, "desk drawers 3 opens 2;stops:1=1;");
        Checks.due("none", x.visit(0, 1), 0);
        Checks.due("none", x.visit(0, 0), 0);

        Sentence.promise(6, "-2.");
        for (int p : NO_DRAWERS_OF_THREE) {
            Checks.due("one " + p, x.visit(p, 0), -2);
            Checks.due("one " + p, x.visit(p, 1), -2);
        }
        for (int what : NO_WHATS_OF_TWO) {
            Checks.due("what " + what, x.visit(0, what), -2);
        }
    }

    private static void openedSentences() {
        DrawerNames x = Checks.at("desk drawers 3 opens 2;name 0 1;name 1 2;name 2 0;");

        Sentence.promise(7, "The i-th DRAWER it opens.");
        Moved.alike(desk -> desk.opened(0, 0), desk -> desk.opened(1, 1), desk -> desk.opened(2, 1), desk -> desk.opened(3, 2));
        Checks.due("0", x.opened(2, 0), 2);
        Checks.due("1", x.opened(2, 1), 0);

        Sentence.promise(7, "NONE: not so many;");
        Checks.due("2", x.opened(2, 2), -1);
        Checks.due("8", x.opened(2, 8), -1);
        Checks.due("9", x.opened(2, 9), -1);
        Checks.due("far", x.opened(2, Integer.MAX_VALUE), -1);
        DrawerNames y = Checks.at("desk drawers 3 opens 9;next:tries;stops:tries=1;");
        Checks.due("one is opened", y.opened(2, 0), 0);
        Checks.due("no second", y.opened(2, 1), -1);
        Checks.tell(y, "desk drawers 3 opens 9;stops:1=1;");
        Checks.due("none is opened", y.opened(0, 0), -1);
        Checks.tell(y, "desk drawers 3 opens 9;next:1;");
        Checks.due("the ninth", y.opened(0, 8), 1);
        Checks.due("no tenth", y.opened(0, 9), -1);

        Sentence.promise(7, "-2;");
        for (int p : NO_DRAWERS_OF_THREE) {
            Checks.due("one " + p, x.opened(p, 0), -2);
        }

        Sentence.promise(7, "-3: i is below 0.");
        Checks.due("-1", x.opened(0, -1), -3);
        Checks.due("least", x.opened(0, Integer.MIN_VALUE), -3);
        Checks.due("0", x.opened(0, 0), 0);
    }

    private static void letOff() {
        Sentence.promise(8, "Who is LET OFF now, as bits.");
        Moved.alike(desk -> desk.letOff());
        DrawerNames x = Checks.at("desk drawers 6 opens 2;name 0 1;name 1 2;name 2 0;name 3 4;name 4 3;");
        Checks.due("3, 4, 5", x.letOff(), 8 + 16 + 32);
        x.swap(0, 1);
        Checks.due("all", x.letOff(), 63);
        Checks.tell(x, "desk drawers 6 opens 1;name 0 1;name 1 2;name 2 3;name 3 4;name 4 5;name 5 0;");
        Checks.due("nobody", x.letOff(), 0);
        Checks.due("one alone", new DrawerNames().letOff(), 1);
    }
}
