/** What the tests share: answers that are due, and texts put onto the tape. */
final class Checks {
    private static int wrong = 0;
    private static int asked = 0;
    private static String about = "";

    private Checks() {
    }

    /** What stands ahead of each wrong answer from now on. */
    static void about(String words) {
        about = words;
    }

    static int asked() {
        return asked;
    }

    static void due(String call, long got, long want) {
        asked++;
        if (got != want) {
            wrong++;
            System.out.println(about + call + " answered " + got + ", due is " + want);
        }
    }

    static void holds(String what, boolean truth) {
        due(what, truth ? 1 : 0, 1);
    }

    static void end() {
        System.out.println(asked + " answers, " + wrong + " not as due");
        if (wrong != 0) {
            System.exit(1);
        }
    }

    /** Puts a text onto the tape, filled up with blanks. */
    static void feed(DrawerNames x, String text) {
        int[] five = new int[5];
        for (int from = 0; from < text.length(); from += 20) {
            for (int i = 0; i < 5; i++) {
                five[i] = 0;
                for (int k = 0; k < 4; k++) {
                    int place = from + 4 * i + k;
                    five[i] = five[i] << 8 | (place < text.length() ? text.charAt(place) & 255 : ' ');
                }
            }
            x.feed(five[0], five[1], five[2], five[3], five[4]);
        }
    }

    static int tell(DrawerNames x, String text) {
        feed(x, text);
        return x.desk(text.length());
    }

    static DrawerNames at(String text) {
        DrawerNames x = new DrawerNames();
        int lines = tell(x, text);
        holds("read: " + text, lines > 0);
        return x;
    }

    /** A text with a fault: its kind and place. */
    static void faulty(String text, int kind, int place) {
        DrawerNames x = new DrawerNames();
        due("desk of " + text, tell(x, text), -30 - kind);
        due("fault of " + text, x.fault(0), kind);
        due("place in " + text, x.fault(1), place);
    }

    static void right(String text, int lines) {
        due("desk of " + text, tell(new DrawerNames(), text), lines);
    }

    /** The number of a row: how many rows come ahead of it, drawer by drawer. */
    static int rowNumber(int... names) {
        int number = 0;
        for (int d = 0; d < names.length; d++) {
            int lesser = 0;
            for (int e = d + 1; e < names.length; e++) {
                lesser += names[e] < names[d] ? 1 : 0;
            }
            number = number * (names.length - d) + lesser;
        }
        return number;
    }

    static void fill(DrawerNames x, int tray, int sort, long... values) {
        due("numbers", x.numbers(tray, sort, values.length), 0);
        for (int i = 0; i < values.length; i++) {
            x.write(tray, i, values[i]);
        }
    }
}
