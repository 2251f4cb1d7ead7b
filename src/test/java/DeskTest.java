/** Promises 1 to 8: a new object, the tape, the text, its faults, drawers, visits. */
public final class DeskTest {
    private static final String TWO = "desk drawers 2 opens 1;";

    private DeskTest() {
    }

    public static void main(String[] args) {
        newObject();
        feed();
        desk();
        refusedDesk();
        tokens();
        faultKinds();
        faultOrder();
        depths();
        drawer();
        plainVisits();
        laws();
        sums();
        truths();
        bounds();
        opened();
        Checks.end();
    }

    private static void newObject() {
        DrawerNames x = new DrawerNames();
        int[] counts = {1, 1, 0, 0, 1, 0, 0, 0, 1};
        for (int what = 0; what < counts.length; what++) {
            Checks.due("new count " + what, x.count(what), counts[what]);
        }
        Checks.due("new drawer", x.drawer(0, 0), 0);
        Checks.due("new night", x.drawer(0, 1), 0);
        Checks.due("new letOff", x.letOff(), 1);
        Checks.due("new fault", x.fault(0), 0);
        Checks.due("new fault's place", x.fault(1), DrawerNames.NONE);
        Checks.due("NONE", DrawerNames.NONE, -1);
    }

    private static void feed() {
        DrawerNames x = new DrawerNames();
        for (int i = 1; i <= 45; i++) {
            Checks.due("feed " + i, x.feed(0x20202020, 0x20202020, 0x20202020, 0x20202020, 0x20202020), 20 * i);
        }
        Checks.due("feed 46", x.feed(0, 0, 0, 0, 0), -5);
        Checks.due("full tape", x.count(6), 900);
        Checks.due("blanks alone", x.desk(900), -32);
        Checks.due("place of blanks alone", x.fault(1), 900);
        Checks.due("feed again", x.feed(0x6465736B, -1, 0, 0, 0), 20);
        Checks.due("highest byte first", x.desk(4), -32);
        Checks.due("its place", x.fault(1), 4);
    }

    private static void desk() {
        DrawerNames x = new DrawerNames();
        Checks.feed(x, TWO + "name 0 1;name 1 0;clue 3;");
        Checks.due("below 0", x.desk(-1), -3);
        Checks.due("above the tape", x.desk(x.count(6) + 1), -3);
        Checks.due("the tape stays", x.count(6), 60);
        Checks.due("lines", x.desk(48), 4);
        Checks.due("tape empty", x.count(6), 0);
        Checks.due("clue", x.count(2), 3);
        Checks.due("lines told", x.count(7), 4);
        x.nights(5);
        x.swap(0, 1);
        Checks.due("part of the tape", Checks.tell(x, "desk drawers 3 opens 9 ; name 0 1;name 1 0;".substring(0, 24)), 1);
        Checks.due("nights anew", x.count(3), 0);
        Checks.due("clue anew", x.count(2), 0);
        Checks.due("nothing to undo", x.count(5), 0);
        Checks.due("row anew", x.lies(0), 0);
        Checks.due("opens", x.count(1), 9);
        Checks.due("later ones strike", Checks.tell(x, TWO + "name 0 1;name 0 0;clue 3;clue 4;night 0 1;night 1 0;"
                + "next:0;next:1;stops:1=1;stops:1=2;"), 11);
        Checks.due("later name", x.drawer(0, 0), 0);
        Checks.due("later clue", x.count(2), 4);
        Checks.due("later laws", x.letOff(), 2);
    }

    private static void refusedDesk() {
        DrawerNames x = Checks.at("desk drawers 3 opens 2;name 0 1;name 1 0;night 0 1;night 1 0;clue 7;");
        x.nights(2);
        Checks.due("no text", x.desk(0), -32);
        Checks.due("no text, place", x.fault(1), 0);
        Checks.due("bad text", Checks.tell(x, "desk drawers 6 opens 9;clue 2;name 0 0"), -32);
        Checks.due("bad text, tape empty", x.count(6), 0);
        int[] counts = {3, 2, 7, 2, 3, 1, 0, 6, 6};
        for (int what = 0; what < counts.length; what++) {
            Checks.due("all stays, count " + what, x.count(what), counts[what]);
        }
        Checks.due("n refused", x.desk(1), -3);
        Checks.due("n refused: fault of the text before", x.fault(0), 2);
        Checks.due("good text", Checks.tell(x, TWO), 1);
        Checks.due("no fault", x.fault(0), 0);
        Checks.due("no place", x.fault(1), -1);
        Checks.due("fault of others", x.fault(2), -1);
        Checks.due("fault of others", x.fault(-1), -1);
    }

    private static void tokens() {
        Checks.right("desk\ndrawers\n2  opens 1\n;\n ", 1);
        Checks.right("desk drawers2opens1;clue5;", 2);
        Checks.right("desk drawers 002 opens 001;clue 009;next:999+me-0*1;", 3);
        Checks.right(TWO + "stops:[1=1]and not 2<1 or(3)>if 1=1 then 1 else 2 end;", 2);
        Checks.faulty("deskdrawers 2 opens 1;", 2, 0);
        Checks.faulty("desk drawers 2 opens 1;\tclue 1;", 1, 23);
        Checks.faulty("Desk drawers 2 opens 1;", 1, 0);
        Checks.faulty(TWO + "clue 0001;", 1, 28);
        Checks.faulty(TWO + "clue 1\u00e9;", 1, 29);
        Checks.faulty(TWO + "clue 1\u0000;", 1, 29);
        Checks.faulty(TWO + "next : 1 / 2;", 1, 32);
        Checks.faulty(TWO + "zz 1;", 2, 23);
        Checks.faulty(TWO + "az 1;", 2, 23);
        Checks.faulty(TWO + "`", 1, 23);
        Checks.faulty(TWO + "{", 1, 23);
        Checks.faulty(TWO + "clue /", 1, 28);
        Checks.faulty(TWO + "nex : 1;", 2, 23);
        Checks.faulty(TWO + "nexts : 1;", 2, 23);
        cutTokens();
    }

    /** What lies on the tape behind the n bytes doesn't count, even if a token would go on there. */
    private static void cutTokens() {
        DrawerNames x = new DrawerNames();
        Checks.feed(x, "desk drawers 2 opens 12;");
        Checks.due("cut in a number", x.desk(22), -32);
        Checks.due("cut in a number, place", x.fault(1), 22);
        Checks.feed(x, "desk drawers 2 opens 1;clue 12345");
        Checks.due("cut in a number", x.desk(29), -32);
        Checks.due("cut in a number, place", x.fault(1), 29);
        Checks.feed(x, "desk drawers 2 opens 1;name 0 0;");
        Checks.due("cut in a word", x.desk(26), -32);
        Checks.due("cut in a word, place", x.fault(1), 23);
        Checks.feed(x, "desk drawers");
        Checks.due("cut at a word", x.desk(4), -32);
        Checks.due("cut at a word, place", x.fault(1), 4);
        Checks.feed(x, "desk drawers 2 opens 1;?");
        Checks.due("cut ahead of what is no token", x.desk(23), 1);
    }

    private static void faultKinds() {
        Checks.faulty("desk drawers 0 opens 1;", 3, 13);
        Checks.faulty("desk drawers 7 opens 1;", 3, 13);
        Checks.faulty("desk drawers 6 opens 10;", 3, 21);
        Checks.right("desk drawers 6 opens 9;", 1);
        Checks.faulty(TWO + ";", 2, 23);
        Checks.right(TWO + "clue 0;clue 9;", 3);
        for (String word : new String[] {"name", "night"}) {
            int first = 24 + word.length();
            Checks.faulty(TWO + word + " 2 0;", 3, first);
            Checks.faulty(TWO + word + " 0 2;", 3, first + 2);
            Checks.faulty(TWO + word + " 999 ?", 3, first);
            Checks.faulty(TWO + word + " 0 0 0;", 2, first + 4);
            Checks.faulty(TWO + word + " 0 : 0;", 2, first + 2);
            Checks.right(TWO + word + " 1 0;" + word + " 0 1;", 3);
        }
        Checks.faulty(TWO + "clue 10;", 3, 28);
        Checks.faulty(TWO + "clue;", 2, 27);
        Checks.faulty(TWO + "clue 1 2;", 2, 30);
        Checks.faulty(TWO + "next 1;", 2, 28);
        Checks.faulty(TWO + "next : 1 = 1;", 2, 32);
        Checks.faulty(TWO + "stops : [1 = 1];x", 2, 39);
        Checks.faulty(TWO + "stops : (1 = 1);", 2, 34);
        Checks.faulty(TWO + "stops : [1] = 1;", 2, 33);
        Checks.faulty(TWO + "stops : 1 = 1 = 1;", 2, 37);
        Checks.faulty(TWO + "next : -1;", 2, 30);
        Checks.faulty(TWO + "next : not 1;", 2, 30);
        Checks.faulty(TWO + "next : if 1 = 1 then 2 end;", 2, 46);
        Checks.faulty(TWO + "name 0 1; \n", 3, 34);
        Checks.faulty(TWO + "night 1 0;", 3, 33);
        Checks.faulty(TWO + "desk drawers 2 opens 1;", 2, 23);
    }

    private static void faultOrder() {
        Checks.faulty(TWO + "clue 99;?", 3, 28);
        Checks.faulty(TWO + "clue 12345 99;", 1, 28);
        Checks.faulty(TWO + "next 12345;", 1, 28);
        Checks.faulty(TWO + "clue next ?", 2, 28);
        Checks.faulty(TWO + "name 0 1;?", 1, 32);
        Checks.faulty(TWO + "name 0 1;clue", 2, 36);
        Checks.faulty(TWO + "name 9 ?", 3, 28);
        Checks.faulty(TWO + "next : ((((((1(", 2, 37);
        Checks.faulty(TWO + "next : ((((((( ?", 4, 36);
    }

    private static void depths() {
        Checks.right(TWO + "next : ((((((1))))))+((((((2))))));", 2);
        Checks.right(TWO + "stops : not not not not not not 1 = 1 and not not 1 = 1;", 2);
        Checks.right(TWO + "next : if not [ not [ (1) = 1 ] ] then 1 else 2 end;", 2);
        Checks.faulty(TWO + "next : if not [ not [ ((1)) = 1 ] ] then 1 else 2 end;", 4, 46);
        Checks.faulty(TWO + "next : if 1=1 then (((((1))))) else ((((((1)))))) end;", 4, 64);
        Checks.faulty(TWO + "stops : [[[[[[[1=1]]]]]]];", 4, 37);
    }

    private static void drawer() {
        DrawerNames x = Checks.at("desk drawers 3 opens 2;name 0 2;name 2 0;night 1 2;night 2 1;");
        int[] names = {2, 1, 0};
        int[] goes = {0, 2, 1};
        for (int d = 0; d < 3; d++) {
            Checks.due("name in " + d, x.drawer(d, 0), names[d]);
            Checks.due("night of " + d, x.drawer(d, 1), goes[d]);
        }
        Checks.due("no drawer", x.drawer(3, 0), -2);
        Checks.due("no drawer", x.drawer(-1, 0), -2);
        Checks.due("no such thing", x.drawer(0, 2), -2);
        Checks.due("no such thing", x.drawer(0, -1), -2);
        x.nights(1);
        Checks.due("by night", x.drawer(1, 0), 0);
        Checks.due("by night", x.drawer(2, 0), 1);
    }

    private static void plainVisits() {
        DrawerNames x = Checks.at("desk drawers 5 opens 3;name 0 1;name 1 2;name 2 0;name 3 4;name 4 3;");
        Checks.due("all within three", x.letOff(), 31);
        Checks.due("a round of three", x.visit(1, 1), 3);
        Checks.due("a round of two", x.visit(3, 1), 2);
        Checks.due("let off", x.visit(3, 0), 1);
        Checks.due("nobody such", x.visit(5, 0), -2);
        Checks.due("nobody such", x.visit(-1, 1), -2);
        Checks.due("no such thing", x.visit(0, 2), -2);
        Checks.due("no such thing", x.visit(0, -1), -2);
        x.swap(0, 3);
        Checks.due("a round of five", x.letOff(), 0);
        Checks.due("a round of five", x.visit(0, 0), 0);
        Checks.due("opens three", x.visit(0, 1), 3);
    }

    private static void laws() {
        DrawerNames x = Checks.at("desk drawers 3 opens 9;next : 0-1-me;name 0 1;name 1 2;name 2 0;");
        Checks.due("rest below 0", x.opened(0, 0), 2);
        Checks.due("it lay there", x.visit(0, 1), 1);
        Checks.due("rest below 0", x.opened(1, 0), 1);
        Checks.due("the same one again counts", x.visit(1, 1), 9);
        Checks.tell(x, "desk drawers 4 opens 4;next : last + 1;stops : tries = 3 or found = 3;");
        Checks.due("last at first is its own number", x.opened(0, 0), 1);
        Checks.due("then the drawer", x.opened(0, 1), 2);
        Checks.due("then it gives up by what it found", x.visit(0, 1), 3);
        Checks.due("found at first is its own number", x.visit(3, 1), 0);
        Checks.due("nobody but", x.letOff(), 0);
        Checks.tell(x, "desk drawers 6 opens 6;next : if me < 2 or [me = 3 and not clue = 0] then tries else found * 5 + 1 end;");
        Checks.due("by tries", x.visit(1, 1), 2);
        Checks.due("by found", x.opened(2, 0), 5);
        Checks.due("by found", x.opened(2, 1), 2);
        Checks.due("by clue 0", x.opened(3, 0), 4);
        x.clue(1);
        Checks.due("by clue 1", x.opened(3, 0), 0);
        Checks.due("by clue 1", x.opened(3, 3), 3);
    }

    /** What a sum tells is seen by the drawer that is opened first, of six; 1 opens them by clue 7. */
    private static void sums() {
        tells("1-2-3", -4);
        tells("5-2*2+1", 2);
        tells("(5-2)*2+1", 7);
        tells("2*3*4", 24);
        tells("me", 1);
        tells("found*2", 2);
        tells("last*3", 3);
        tells("tries", 0);
        tells("clue", 7);
        tells("if 1=1 then 2 else 3 end", 2);
        tells("if 1=2 then 2 else 3 end", 3);
        tells("if 1=1 then if 1=2 then 2 else 3 end else 4 end*2", 6);
        tells("10+if 1=1 then 2 else 3 end-1", 11);
        tells("0-(0-5)", 5);
        tells("1+2*3-4*if 2>1 then 1+1 else 5*5 end+6", 5);
        tells("(1+(2-(3-(4-(5-(6))))))", -1);
    }

    private static void tells(String sum, int value) {
        DrawerNames x = Checks.at("desk drawers 6 opens 2;clue 7;next:" + sum + ";");
        Checks.due(sum, x.opened(1, 0), Math.floorMod(value, 6));
    }

    private static void truths() {
        String[] hold = {"1=1", "1<2", "2>1", "not 1=2", "not 1<1", "not 1>1", "not 2<1", "not 1>2", "1=1 and 2=2",
            "1=2 or 2=2", "1=1 or 1=2", "1=1 or 1=2 and 1=2", "not 1=2 and 1=1", "not [1=1 and 1=2]",
            "not not 1=1", "[1=2 or 1=1] and [1=1 or 1=2]", "0-1<0", "not 1=2 or 1=1", "1+1=2*1", "(1)=1",
            "1=1 and 1=1 and 1=1", "1=2 or 1=2 or 1=1", "not [not 1=1 or not 2=2]"};
        String[] fail = {"1=2", "1<1", "2<1", "1>1", "1>2", "not 1=1", "not 1<2", "not 2>1", "1=1 and 1=2",
            "1=2 and 1=1", "1=2 or 1=2", "[1=1 or 1=1] and 1=2", "not 1=1 or 1=2", "not not 1=2",
            "not [1=1 or 1=2]", "1=2 and 1=2 or 1=2", "1=1 and 1=1 and 1=2"};
        for (String truth : hold) {
            Checks.due(truth, Checks.at("desk drawers 2 opens 1;stops:" + truth + ";").visit(0, 1), 0);
        }
        for (String truth : fail) {
            Checks.due(truth, Checks.at("desk drawers 2 opens 1;stops:" + truth + ";").visit(0, 1), 1);
        }
    }

    private static void bounds() {
        DrawerNames x = Checks.at("desk drawers 6 opens 1;next : 999*999*999-3;");
        Checks.due("kept at 1,000,000, then 3 less", x.opened(0, 0), 999997 % 6);
        Checks.tell(x, "desk drawers 6 opens 1;next : 0-999*999*999-999+999999;");
        Checks.due("a number has 3 digits", x.fault(0), 1);
        Checks.tell(x, "desk drawers 6 opens 1;next : 0-999*999*999-999+999*999;");
        Checks.due("kept at -1,000,000, then 998,001 more", x.opened(0, 0), Math.floorMod(-1999, 6));
        Checks.tell(x, "desk drawers 6 opens 1;next : 999*999+999+999-3;");
        Checks.due("999,999 - 3", x.opened(0, 0), 999996 % 6);
        Checks.tell(x, "desk drawers 6 opens 1;next : 999*999+999+999+5-3;");
        Checks.due("1,000,000 - 3", x.opened(0, 0), 999997 % 6);
    }

    private static void opened() {
        DrawerNames x = Checks.at("desk drawers 3 opens 2;name 0 1;name 1 2;name 2 0;");
        Checks.due("first", x.opened(1, 0), 1);
        Checks.due("second", x.opened(1, 1), 2);
        Checks.due("no third", x.opened(1, 2), -1);
        Checks.due("far", x.opened(1, Integer.MAX_VALUE), -1);
        Checks.due("below 0", x.opened(1, -1), -3);
        Checks.due("nobody such first", x.opened(3, -1), -2);
        Checks.due("nobody such", x.opened(-1, 0), -2);
    }
}
