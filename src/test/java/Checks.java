/** What the tests share: answers that are due, and texts put onto the tape. */
final class Checks {
    private static int wrong = 0;
    private static int asked = 0;

    private Checks() {
    }

    static void due(String call, long got, long want) {
        asked++;
        if (got != want) {
            wrong++;
            System.out.println(call + " answered " + got + ", due is " + want);
        }
    }

    static void holds(String what, boolean truth) {
        due(what, truth ? 1 : 0, 1);
    }

    static void end() {
        System.out.println(asked + " answers, " + wrong + " not as due");
        if (wrong != 0) {
            System.exit(1);
        }
    }

    /** Puts a text onto the tape, filled up with blanks. */
    static void feed(DrawerNames x, String text) {
        int[] five = new int[5];
        for (int from = 0; from < text.length(); from += 20) {
            for (int i = 0; i < 5; i++) {
                five[i] = 0;
                for (int k = 0; k < 4; k++) {
                    int place = from + 4 * i + k;
                    five[i] = five[i] << 8 | (place < text.length() ? text.charAt(place) & 255 : ' ');
                }
            }
            x.feed(five[0], five[1], five[2], five[3], five[4]);
        }
    }

    static int tell(DrawerNames x, String text) {
        feed(x, text);
        return x.desk(text.length());
    }

    static DrawerNames at(String text) {
        DrawerNames x = new DrawerNames();
        int lines = tell(x, text);
        holds("read: " + text, lines > 0);
        return x;
    }

    static void fill(DrawerNames x, int tray, int sort, long... values) {
        due("numbers", x.numbers(tray, sort, values.length), 0);
        for (int i = 0; i < values.length; i++) {
            x.write(tray, i, values[i]);
        }
    }
}
