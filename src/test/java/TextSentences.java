/** Sentences of the terms, part 1: what a text is, its tokens, its faults. */
final class TextSentences {
    /** 23 bytes. */
    private static final String TWO = "desk drawers 2 opens 1;";

    private TextSentences() {
    }

    static void all() {
        atMost512Calls();
        constants();
        longestText();
        withoutText();
        header();
        lines();
        sums();
        terms();
        atoms();
        truths();
        units();
        sixWithinOneAnother();
        howManyDrawers();
        howManyOpened();
        name();
        night();
        clueBounds();
        laterOnesStrike();
        eachNameEachDrawer();
        tokens();
        blanks();
        wordsNumbersSigns();
        firstAlongTheText();
        leastKind();
        noToken();
        cantStand();
        theEnd();
        deskFirstAndOnce();
        outOfBounds();
        nowhere();
        seventh();
    }

    private static void atMost512Calls() {
        Sentence.whatItIs("An object is used for at most 512 calls after it has been made");
        DrawerNames x = new DrawerNames();
        for (int call = 1; call <= 512; call++) {
            Checks.due("call " + call, x.clue(call % 10), (call - 1) % 10);
        }
    }

    private static void constants() {
        Sentence.constants("`NONE = -1`: There is none.");
        Checks.due("NONE", DrawerNames.NONE, -1);
        Checks.due("there is none", new DrawerNames().fault(1), DrawerNames.NONE);
    }

    private static void longestText() {
        Sentence.terms(1, "THE DESK is a TEXT of at most 900 bytes");
        StringBuilder text = new StringBuilder(TWO);
        while (text.length() + 7 <= 893) {
            text.append("clue 1;");
        }
        while (text.length() < 893) {
            text.append(' ');
        }
        text.append("clue 8;");
        DrawerNames x = new DrawerNames();
        Checks.feed(x, text.toString());
        Checks.due("all on the tape", x.count(6), 900);
        Checks.due("no 901st", x.desk(901), -3);
        Checks.due("lines of 900 bytes", x.desk(900), 126);
        Checks.due("the last line counts", x.count(2), 8);
    }

    private static void withoutText() {
        Sentence.terms(1, "(without one: 1 DRAWER, 1 to be opened, CLUE 0)");
        DrawerNames x = new DrawerNames();
        Checks.due("drawers", x.count(0), 1);
        Checks.due("opened", x.count(1), 1);
        Checks.due("clue", x.count(2), 0);
        Checks.due("no lines", x.count(7), 0);
        Checks.due("its name lies there", x.drawer(0, 0), 0);
        Checks.due("it stays by night", x.drawer(0, 1), 0);
        Checks.due("it is opened", x.opened(0, 0), 0);
        Checks.due("it is let off", x.visit(0, 0), 1);
        Checks.tell(x, TWO + "clue 7;name 0 1;name 1 0;night 0 1;night 1 0;next:1;stops:1=1;");
        Checks.tell(x, TWO);
        Checks.due("a text without a clue", x.count(2), 0);
        Checks.due("without names", x.lies(0), 0);
        Checks.due("without nights", x.drawer(0, 1), 0);
        Checks.due("without laws", x.letOff(), 3);
    }

    private static void header() {
        Sentence.terms(1, "desk drawers N opens N ; { LINE ; }");
        Checks.right(TWO, 1);
        Checks.right(TWO + "clue 1;", 2);
        Checks.right(TWO + "clue 1;clue 2;", 3);
        String[] tooShort = {"", "desk", "desk drawers", "desk drawers 2", "desk drawers 2 opens",
            "desk drawers 2 opens 1", TWO + "clue 1", TWO + "clue 1;clue 2"};
        for (String text : tooShort) {
            Checks.faulty(text, 2, text.length());
        }
        Checks.faulty("drawers 2 opens 1;", 2, 0);
        Checks.faulty("desk 2 opens 1;", 2, 5);
        Checks.faulty("desk opens 1;", 2, 5);
        Checks.faulty("desk drawers opens 1;", 2, 13);
        Checks.faulty("desk drawers 2 1;", 2, 15);
        Checks.faulty("desk drawers 2;opens 1;", 2, 14);
        Checks.faulty("desk drawers 2 opens;", 2, 20);
        Checks.faulty("desk drawers 2 opens 1 clue 1;", 2, 23);
        Checks.faulty("desk opens 1 drawers 2;", 2, 5);
        Checks.faulty(TWO + ";", 2, 23);
        Checks.faulty(TWO + "clue 1;;", 2, 30);
        Checks.faulty(TWO + "clue 1 clue 2;", 2, 30);
    }

    private static void lines() {
        Sentence.terms(1, "LINE: name N N | night N N | clue N | next : SUM | stops : TRUTH.");
        Checks.right(TWO + "name 0 0;night 0 0;clue 1;next : 1;stops : 1 = 1;", 6);
        Checks.right(TWO + "stops : 1 = 1;next : 1;clue 1;night 0 0;name 0 0;", 6);
        Checks.faulty(TWO + "name;", 2, 27);
        Checks.faulty(TWO + "name 0;", 2, 29);
        Checks.faulty(TWO + "name 0 0 0;", 2, 32);
        Checks.faulty(TWO + "name : 0 0;", 2, 28);
        Checks.faulty(TWO + "name me 0;", 2, 28);
        Checks.faulty(TWO + "name 0 me;", 2, 30);
        Checks.faulty(TWO + "night;", 2, 28);
        Checks.faulty(TWO + "night 0;", 2, 30);
        Checks.faulty(TWO + "night 0 0 0;", 2, 33);
        Checks.faulty(TWO + "night : 0 0;", 2, 29);
        Checks.faulty(TWO + "clue;", 2, 27);
        Checks.faulty(TWO + "clue 1 1;", 2, 30);
        Checks.faulty(TWO + "clue : 1;", 2, 28);
        Checks.faulty(TWO + "next 1;", 2, 28);
        Checks.faulty(TWO + "next : ;", 2, 30);
        Checks.faulty(TWO + "next : 1 1;", 2, 32);
        Checks.faulty(TWO + "stops 1 = 1;", 2, 29);
        Checks.faulty(TWO + "stops : ;", 2, 31);
        Checks.faulty(TWO + "stops : 1 = 1 1 = 1;", 2, 37);
        String[] others = {"drawers 2", "opens 1", "me", "found", "last", "tries", "if", "then", "else", "end", "or",
            "and", "not", "law : 1", "1", ": 1", "( 1 )"};
        for (String other : others) {
            Checks.faulty(TWO + other + ";", 2, 23);
        }
    }

    /** What a sum tells is seen by the drawer of six that 1 opens first, by clue 7. */
    private static void tells(String sum, int value) {
        DrawerNames x = Checks.at("desk drawers 6 opens 2;clue 7;next:" + sum + ";");
        Checks.due(sum, x.opened(1, 0), Math.floorMod(value, 6));
    }

    /** A law next with a fault at a place behind "next:". */
    private static void noSum(String sum, int place) {
        Checks.faulty(TWO + "next:" + sum + ";", 2, 28 + place);
    }

    private static void sums() {
        Sentence.terms(1, "SUM: TERM { + TERM | - TERM };");
        tells("7", 7);
        tells("1+1", 2);
        tells("4-1", 3);
        tells("1-2-2", -3);
        tells("1-2+2", 1);
        tells("1+2-3-4+5-2", -1);
        tells("1+2*2-1", 4);
        noSum("+1", 0);
        noSum("-1", 0);
        noSum("1+", 2);
        noSum("1-", 2);
        noSum("1+-1", 2);
        noSum("1 1", 2);
    }

    private static void terms() {
        Sentence.terms(1, "TERM: ATOM { * ATOM };");
        tells("5", 5);
        tells("2*2", 4);
        tells("2*2*2", 8);
        tells("5-2*2", 1);
        tells("2*2-5", -1);
        tells("1+2*2", 5);
        noSum("*1", 0);
        noSum("1*", 2);
        noSum("1**1", 2);
        noSum("1*+1", 2);
    }

    private static void atoms() {
        Sentence.terms(1, "ATOM: N, ( SUM ), if TRUTH then SUM else SUM end, me, found, last, tries, clue.");
        tells("0", 0);
        tells("999", 999);
        tells("(4)", 4);
        tells("(5-2)*2+1", 7);
        tells("if 1=1 then 2+1 else 4+1 end", 3);
        tells("if 1=2 then 2+1 else 4+1 end", 5);
        tells("if 1=2 or 1=1 then 2 else 3 end*2", 4);
        tells("me+1", 2);
        tells("found+2", 3);
        tells("last+3", 4);
        tells("tries+5", 5);
        tells("clue+4", 11);
        noSum("()", 1);
        noSum("(1", 2);
        noSum("1)", 1);
        noSum("(1]", 2);
        noSum("[1=1]", 0);
        noSum("not 1", 0);
        noSum("(1=1)", 2);
        noSum("if 1 then 1 else 2 end", 5);
        noSum("if 1=1 1 else 2 end", 7);
        noSum("if 1=1 then else 2 end", 12);
        noSum("if 1=1 then 1 2 end", 14);
        noSum("if 1=1 then 1 end", 14);
        noSum("if 1=1 then 1 else end", 19);
        noSum("if 1=1 then 1 else 2", 20);
        noSum("if 1=1 then 1=1 else 2 end", 13);
        for (String word : new String[] {"desk", "drawers", "opens", "name", "night", "next", "stops", "then", "end", "x"}) {
            noSum(word, 0);
        }
    }

    /** Where the law stops holds at first, nothing is opened. */
    private static void truth(String truth, boolean holds) {
        DrawerNames x = Checks.at(TWO + "stops:" + truth + ";");
        Checks.due(truth, x.visit(0, 1), holds ? 0 : 1);
    }

    /** A law stops with a fault at a place behind "stops:". */
    private static void noTruth(String truth, int place) {
        Checks.faulty(TWO + "stops:" + truth + ";", 2, 29 + place);
    }

    private static void truths() {
        Sentence.terms(1, "TRUTH: BOTH { or BOTH }; BOTH: UNIT { and UNIT };");
        truth("1=1 or 1=2", true);
        truth("1=2 or 1=1", true);
        truth("1=2 or 1=2", false);
        truth("1=2 or 1=2 or 1=1", true);
        truth("1=1 and 1=1", true);
        truth("1=1 and 1=2", false);
        truth("1=2 and 1=1", false);
        truth("1=1 and 1=1 and 1=2", false);
        truth("1=1 or 1=2 and 1=2", true);
        truth("1=2 and 1=2 or 1=1", true);
        truth("1=2 and 1=1 or 1=2", false);
        noTruth("or 1=1", 0);
        noTruth("and 1=1", 0);
        noTruth("1=1 or", 6);
        noTruth("1=1 and", 7);
        noTruth("1=1 or or 1=1", 7);
        noTruth("1=1 or and 1=1", 7);
        noTruth("1=1 1=1", 4);
    }

    private static void units() {
        Sentence.terms(1, "UNIT: not UNIT, [ TRUTH ], or SUM, one of = < >, SUM.");
        truth("not 1=2", true);
        truth("not 1=1", false);
        truth("not not 1=1", true);
        truth("not 1=2 and 1=2", false);
        truth("not [1=2 and 1=2]", true);
        truth("not 1=1 or 1=1", true);
        truth("not [1=1 or 1=1]", false);
        truth("[1=1 or 1=1] and 1=2", false);
        truth("[[1=1]]", true);
        truth("1=1", true);
        truth("1<1", false);
        truth("1>1", false);
        truth("1=2", false);
        truth("1<2", true);
        truth("1>2", false);
        truth("2=1", false);
        truth("2<1", false);
        truth("2>1", true);
        truth("not 1<2", false);
        truth("not 2>1", false);
        truth("not 2<1", true);
        truth("not 1>2", true);
        truth("1<2 and 1=1", true);
        truth("2>1 and 1=1", true);
        truth("1<2 and 2>1", true);
        truth("0-2<0-1", true);
        truth("1+1=2*1", true);
        truth("(2)*3=6", true);
        noTruth("1", 1);
        noTruth("=1", 0);
        noTruth("1=", 2);
        noTruth("1=1=1", 3);
        noTruth("1<>2", 2);
        noTruth("1 not = 2", 2);
        noTruth("not", 3);
        noTruth("not 1", 5);
        noTruth("[1=1", 4);
        noTruth("1=1]", 3);
        noTruth("[]", 1);
        noTruth("[1]=1", 2);
        noTruth("(1=1)", 2);
        noTruth("[1=1)", 4);
        noTruth("[1=1]=1", 5);
    }

    private static void sixWithinOneAnother() {
        Sentence.terms(1, "At most six of not [ ( if within one another.");
        Checks.right(TWO + "next:((((((1))))));", 2);
        Checks.right(TWO + "stops:[[[[[[1=1]]]]]];", 2);
        Checks.right(TWO + "stops:not not not not not not 1=1;", 2);
        Checks.right(TWO + "next:if if if if if if 1=1 then 1 else 2 end=1 then 1 else 2 end=1 then 1 else 2 end=1 then 1"
                + " else 2 end=1 then 1 else 2 end=1 then 1 else 2 end;", 2);
        Checks.right(TWO + "next:if not [ not [ (1)=1 ] ] then 1 else 2 end;", 2);
        Checks.right(TWO + "next:((((((1))))))+((((((2))))))*((((((3))))));", 2);
        Checks.right(TWO + "stops:not not not not not not 1=1 and not not not not not not 1=1;", 2);
        Checks.right(TWO + "next:if (((((1)))))=(((((1))))) then (((((1))))) else (((((1))))) end;", 2);
        Checks.right(TWO + "next:((((((1))))));stops:[[[[[[1=1]]]]]];", 3);
        tells("((((((4))))))", 4);
        truth("not not not not not not 1=1", true);
        truth("not not not not not not 1=1 and not not not not not not 1=1", true);
        truth("not not not not not not 1=1 and not not not not not 1=1", false);
        String choice = "if 1=1 then 1 else 2 end";
        tells(choice + "+" + choice + "+" + choice + "+" + choice + "+" + choice + "+" + choice + "+" + choice, 7);
        truth("[1=1] and [1=1] and [1=1] and [1=1] and [1=1] and [1=1] and [1=1] and [1=1]", true);
        tells("(1)+(1)+(1)+(1)+(1)+(1)+(1)+(1)", 8);
        tells(choice + "+(1+(1+(1+(1+(1+(1+3))))))", 10);
        tells("(1+(1+(1+(1+(1+(1+4))))))-" + choice, 9);
        tells("1+2*(1+2*(1+2*(1+2*" + choice + ")))", 31);
        DrawerNames x = new DrawerNames();
        Checks.tell(x, TWO + "next:(((((((1");
        Checks.due("behind a text with a seventh", Checks.tell(x, TWO + "next:((((((1))))));"), 2);
        Checks.tell(x, TWO + "next:((((((1?");
        Checks.due("behind a text that broke off within", Checks.tell(x, TWO + "next:((((((1))))));"), 2);
    }

    private static void howManyDrawers() {
        Sentence.terms(1, "desk: how many DRAWERS, and PEOPLE, 1 to 6, numbered from 0 on;");
        Checks.faulty("desk drawers 0 opens 1;", 3, 13);
        Checks.faulty("desk drawers 7 opens 1;", 3, 13);
        Checks.faulty("desk drawers 999 opens 1;", 3, 13);
        for (int n = 1; n <= 6; n++) {
            DrawerNames x = Checks.at("desk drawers " + n + " opens 1;");
            Checks.due("drawers", x.count(0), n);
            Checks.due("the first", x.drawer(0, 0), 0);
            Checks.due("the last", x.drawer(n - 1, 0), n - 1);
            Checks.due("none behind", x.drawer(n, 0), -2);
            Checks.due("none ahead", x.drawer(-1, 0), -2);
            Checks.due("the first one", x.visit(0, 0), 1);
            Checks.due("the last one", x.visit(n - 1, 0), 1);
            Checks.due("nobody behind", x.visit(n, 0), -2);
            Checks.due("all, as bits", x.letOff(), (1 << n) - 1);
        }
    }

    private static void howManyOpened() {
        Sentence.terms(1, "how many may be opened, 1 to 9.");
        Checks.faulty("desk drawers 2 opens 0;", 3, 21);
        Checks.faulty("desk drawers 2 opens 10;", 3, 21);
        for (int n = 1; n <= 9; n++) {
            DrawerNames x = Checks.at("desk drawers 2 opens " + n + ";next:1;");
            Checks.due("may be", x.count(1), n);
            Checks.due("are opened", x.visit(0, 1), n);
        }
    }

    private static void name() {
        Sentence.terms(1, "name: a DRAWER, whose name lies there (without one: that of the same number).");
        DrawerNames x = Checks.at("desk drawers 4 opens 1;name 1 3;name 3 1;");
        int[] names = {0, 3, 2, 1};
        for (int d = 0; d < 4; d++) {
            Checks.due("in " + d, x.drawer(d, 0), names[d]);
        }
        Checks.tell(x, "desk drawers 3 opens 1;name 0 1;name 1 2;name 2 0;");
        int[] round = {1, 2, 0};
        for (int d = 0; d < 3; d++) {
            Checks.due("in " + d, x.drawer(d, 0), round[d]);
        }
    }

    private static void night() {
        Sentence.terms(1, "night: a DRAWER, into which one its name goes by night (without one: it stays).");
        DrawerNames x = Checks.at("desk drawers 4 opens 1;night 0 1;night 1 2;night 2 0;");
        int[] goes = {1, 2, 0, 3};
        int[] then = {2, 0, 1, 3};
        x.nights(1);
        for (int d = 0; d < 4; d++) {
            Checks.due("goes from " + d, x.drawer(d, 1), goes[d]);
            Checks.due("lies in " + d, x.drawer(d, 0), then[d]);
        }
    }

    private static void clueBounds() {
        Sentence.terms(1, "clue 0 to 9.");
        for (int n = 0; n <= 9; n++) {
            Checks.due("clue " + n, Checks.at(TWO + "clue " + n + ";").count(2), n);
        }
        Checks.faulty(TWO + "clue 10;", 3, 28);
        Checks.faulty(TWO + "clue 999;", 3, 28);
    }

    private static void laterOnesStrike() {
        Sentence.terms(1, "Later ones of a DRAWER's name, night, of clue, next, stops strike.");
        DrawerNames x = Checks.at("desk drawers 3 opens 2;name 0 1;name 1 0;name 0 0;name 1 1;");
        Checks.due("name", x.lies(0), 0);
        Checks.tell(x, "desk drawers 3 opens 2;name 0 0;name 1 1;name 0 1;name 1 0;");
        Checks.due("name", x.lies(0), 2);
        Checks.tell(x, "desk drawers 3 opens 2;night 0 1;night 1 0;night 0 0;night 1 1;");
        Checks.due("night", x.drawer(0, 1), 0);
        Checks.tell(x, "desk drawers 3 opens 2;clue 9;clue 4;");
        Checks.due("clue", x.count(2), 4);
        Checks.tell(x, "desk drawers 3 opens 2;clue 9;clue 0;");
        Checks.due("clue 0", x.count(2), 0);
        Checks.tell(x, "desk drawers 3 opens 2;next:1+1;next:1;");
        Checks.due("next", x.opened(0, 0), 1);
        Checks.tell(x, "desk drawers 3 opens 2;stops:1=1;stops:1=2;");
        Checks.due("stops", x.visit(0, 1), 1);
        Checks.tell(x, "desk drawers 3 opens 2;stops:1=2;next:2;stops:1=1;");
        Checks.due("stops", x.visit(0, 1), 0);
        Checks.due("struck ones are lines, too", x.count(7), 4);
    }

    private static void eachNameEachDrawer() {
        Sentence.terms(1, "In the end each name must lie somewhere, into each DRAWER one must go by night.");
        Checks.right(TWO + "name 0 1;name 1 0;", 3);
        Checks.right(TWO + "name 0 1;name 0 0;", 3);
        Checks.right(TWO + "night 0 1;night 1 0;", 3);
        Checks.right(TWO + "night 0 1;night 0 0;", 3);
        Checks.faulty(TWO + "name 0 1;", 3, 32);
        Checks.faulty(TWO + "name 1 0;", 3, 32);
        Checks.faulty(TWO + "night 0 1;", 3, 33);
        Checks.faulty(TWO + "night 1 0;", 3, 33);
        Checks.faulty("desk drawers 6 opens 1;name 0 5;name 5 1;", 3, 41);
        Checks.faulty("desk drawers 6 opens 1;night 0 5;night 5 1;", 3, 43);
    }

    private static void tokens() {
        Sentence.terms(1, "TOKENS, as long as they go on");
        Checks.faulty("deskdrawers 2 opens 1;", 2, 0);
        Checks.faulty("desk drawersopens 2 1;", 2, 5);
        Checks.faulty(TWO + "nexts:1;", 2, 23);
        Checks.faulty(TWO + "nex:1;", 2, 23);
        Checks.faulty(TWO + "next:notme;", 2, 28);
        Checks.faulty(TWO + "clue 12;", 3, 28);
        Checks.faulty(TWO + "name 01;", 2, 30);
        Checks.right("desk drawers2opens1;clue5;next:1;stops:1=1or 1=1;", 4);
        DrawerNames x = new DrawerNames();
        Checks.feed(x, TWO + "clue 12;");
        Checks.due("it goes on to the n-th byte only", x.desk(29), -32);
        Checks.due("at the end", x.fault(1), 29);
        Checks.feed(x, TWO + "next:mean;");
        Checks.due("a word, too", x.desk(30), -32);
        Checks.due("at the end", x.fault(1), 30);
    }

    private static void blanks() {
        Sentence.terms(1, "between them blanks (10, 32)");
        Checks.right("  \n desk\ndrawers \n 2\nopens\n1\n;\n\n  ", 1);
        Checks.right("desk drawers 2 opens 1 ; clue 1 ; next : 1 + 2 * ( 3 ) ;", 3);
        Checks.faulty(TWO + "cl ue 1;", 2, 23);
        Checks.faulty(TWO + "cl\nue 1;", 2, 23);
        Checks.faulty(TWO + "clue 0 1;", 2, 30);
        for (int sign : new int[] {0, 1, 9, 11, 12, 13, 31, 33, 127, 138, 160}) {
            Checks.faulty(TWO + (char) sign, 1, 23);
        }
    }

    private static void wordsNumbersSigns() {
        Sentence.terms(1, ": words (small letters), N (1 to 3 digits), the signs ; : + - * ( ) [ ] = < >.");
        for (int sign = 0; sign < 256; sign++) {
            boolean isToken = sign >= 'a' && sign <= 'z' || sign >= '0' && sign <= '9'
                    || sign > 32 && ";:+-*()[]=<>".indexOf(sign) >= 0;
            if (sign != 10 && sign != 32) {
                Checks.faulty(TWO + (char) sign, isToken ? 2 : 1, 23);
            }
        }
        Checks.right(TWO + "clue 1;clue 01;clue 001;", 4);
        Checks.faulty(TWO + "clue 0001;", 1, 28);
        Checks.right(TWO + "next:0+00+000+9+99+999;", 2);
        Checks.faulty(TWO + "Clue 1;", 1, 23);
        Checks.faulty(TWO + "cLue 1;", 2, 23);
    }

    private static void firstAlongTheText() {
        Sentence.terms(1, "FAULTS, the first along the text");
        Checks.faulty(TWO + "clue 99;?", 3, 28);
        Checks.faulty(TWO + "clue clue ?", 2, 28);
        Checks.faulty(TWO + "clue ?;clue clue;", 1, 28);
        Checks.faulty(TWO + "next:((((((( ?", 4, 34);
        Checks.faulty(TWO + "next:((((((? (", 1, 34);
        Checks.faulty(TWO + "name 9 0 ?", 3, 28);
        Checks.faulty(TWO + "name 0 9 clue", 3, 30);
        Checks.faulty(TWO + "name 0 1;?", 1, 32);
        Checks.faulty(TWO + "name 0 1;clue 99;", 3, 37);
        Checks.faulty("desk drawers 7 opens 10;", 3, 13);
        Checks.faulty("desk drawers 7 ?", 3, 13);
    }

    private static void leastKind() {
        Sentence.terms(1, ", of one TOKEN the least kind:");
        Checks.faulty(TWO + "next 1234;", 1, 28);
        Checks.faulty(TWO + "clue 1234;", 1, 28);
        Checks.faulty(TWO + "clue 1 99;", 2, 30);
        Checks.faulty(TWO + "99;", 2, 23);
        Checks.faulty(TWO + "next:((((((1(", 2, 35);
        Checks.faulty(TWO + "stops:[[[[[[1=1 not", 2, 39);
        Checks.faulty(TWO + "stops:[[[[[[1=[", 2, 37);
        Checks.faulty(TWO + "name 0 1", 2, 31);
        Checks.faulty(TWO + "name 0 1;clue", 2, 36);
    }

    private static void noToken() {
        Sentence.terms(1, "1 no TOKEN begins so (4 digits and more: at their first).");
        Checks.faulty("?", 1, 0);
        Checks.faulty(TWO + "clue 1.", 1, 29);
        Checks.faulty(TWO + "clue 1234;", 1, 28);
        Checks.faulty(TWO + "clue 123456789012345678901234567890;", 1, 28);
        Checks.faulty(TWO + "clue 0000;", 1, 28);
        Checks.faulty(TWO + "next:1234", 1, 28);
        Checks.faulty("1234", 1, 0);
        Checks.faulty(TWO + "next:1+2345;", 1, 30);
        Checks.right(TWO + "next:999;", 2);
    }

    private static void cantStand() {
        Sentence.terms(1, "2 it can't stand there");
        Checks.faulty("clue", 2, 0);
        Checks.faulty(";", 2, 0);
        Checks.faulty("1", 2, 0);
        Checks.faulty("desk desk", 2, 5);
        Checks.faulty(TWO + "clue =;", 2, 28);
        Checks.faulty(TWO + "opens 1;", 2, 23);
        Checks.faulty(TWO + "next:1=1;", 2, 29);
        Checks.faulty(TWO + "next:1 stops:1=1;", 2, 30);
        Checks.faulty(TWO + "nobody 1;", 2, 23);
    }

    private static void theEnd() {
        Sentence.terms(1, "(the end: the text's length;");
        Checks.faulty("", 2, 0);
        Checks.faulty("   ", 2, 3);
        Checks.faulty("desk  \n ", 2, 8);
        Checks.faulty(TWO + "clue", 2, 27);
        Checks.faulty(TWO + "clue 1   ", 2, 32);
        Checks.faulty(TWO + "next:(1", 2, 30);
        DrawerNames x = new DrawerNames();
        Checks.feed(x, TWO + "clue 1;");
        Checks.due("the text's, not the tape's", x.desk(27), -32);
        Checks.due("its length", x.fault(1), 27);
    }

    private static void deskFirstAndOnce() {
        Sentence.terms(1, "desk must be told first, and once).");
        Checks.faulty("clue 1;" + TWO, 2, 0);
        Checks.faulty("name 0 0;", 2, 0);
        Checks.faulty(TWO + TWO, 2, 23);
        Checks.faulty(TWO + "clue 1;" + TWO, 2, 30);
    }

    private static void outOfBounds() {
        Sentence.terms(1, "3 an N out of its bounds;");
        Checks.faulty("desk drawers 0 opens 1;", 3, 13);
        Checks.faulty("desk drawers 7 opens 1;", 3, 13);
        Checks.faulty("desk drawers 2 opens 0;", 3, 21);
        Checks.faulty("desk drawers 2 opens 10;", 3, 21);
        Checks.faulty(TWO + "name 2 0;", 3, 28);
        Checks.faulty(TWO + "name 0 2;", 3, 30);
        Checks.faulty(TWO + "night 2 0;", 3, 29);
        Checks.faulty(TWO + "night 0 2;", 3, 31);
        Checks.faulty(TWO + "clue 10;", 3, 28);
        Checks.faulty("desk drawers 6 opens 9;name 6 0;", 3, 28);
        Checks.right("desk drawers 6 opens 9;name 5 5;night 5 5;clue 9;next:999;", 5);
    }

    private static void nowhere() {
        Sentence.terms(1, "at the end (its place): a name lies nowhere, into a DRAWER none goes.");
        Checks.faulty(TWO + "name 0 1;", 3, 32);
        Checks.faulty(TWO + "night 0 1;", 3, 33);
        Checks.faulty(TWO + "name 0 1;\n  ", 3, 35);
        Checks.faulty(TWO + "name 0 1;night 0 1;", 3, 42);
        Checks.faulty(TWO + "name 0 1;clue 1;", 3, 39);
        Checks.faulty("desk drawers 3 opens 1;name 0 1;name 1 2;", 3, 41);
        Checks.right("desk drawers 3 opens 1;name 0 1;name 1 2;name 2 0;", 4);
    }

    private static void seventh() {
        Sentence.terms(1, "4 a seventh of not [ ( if.");
        Checks.faulty(TWO + "next:(((((((1)))))));", 4, 34);
        Checks.faulty(TWO + "stops:[[[[[[[1=1]]]]]]];", 4, 35);
        Checks.faulty(TWO + "stops:not not not not not not not 1=1;", 4, 53);
        Checks.faulty(TWO + "next:((((((if 1=1 then 1 else 2 end))))));", 4, 34);
        Checks.faulty(TWO + "stops:[[[[[[(1)=1]]]]]];", 4, 35);
        Checks.faulty(TWO + "stops:[[[[[[not 1=1]]]]]];", 4, 35);
        Checks.faulty(TWO + "stops:not not not not not not [1=1];", 4, 53);
        Checks.faulty(TWO + "next:if not [ not [ ((1))=1 ] ] then 1 else 2 end;", 4, 44);
        Checks.faulty(TWO + "next:((((((1))))))+(((((((1)))))));", 4, 48);
        Checks.faulty(TWO + "next:if 1=1 then ((((((1)))))) else 2 end;", 4, 45);
        Checks.faulty(TWO + "next:if 1=1 then 1 else ((((((1)))))) end;", 4, 52);
    }
}
