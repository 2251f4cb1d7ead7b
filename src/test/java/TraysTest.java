/** Promises 39 to 44: trays, rows listed, images, counts. */
public final class TraysTest {
    private TraysTest() {
    }

    public static void main(String[] args) {
        numbers();
        write();
        lists();
        images();
        imagesAreWhole();
        count();
        Checks.end();
    }

    private static void numbers() {
        DrawerNames x = new DrawerNames();
        Checks.due("40", x.numbers(3, 3, 40), 0);
        Checks.due("its last", x.write(3, 39, 7), 7);
        Checks.due("41", x.numbers(3, 3, 41), -3);
        Checks.due("-1", x.numbers(3, 0, -1), -3);
        Checks.due("it stays", x.write(3, 38, 1L << 40), 1L << 40);
        Checks.due("no tray", x.numbers(4, 0, 1), -2);
        Checks.due("no tray", x.numbers(-1, 0, 1), -2);
        Checks.due("no sort first", x.numbers(0, 4, 41), -2);
        Checks.due("no sort", x.numbers(0, -1, 1), -2);
        Checks.due("still missing", x.perform(0), -6);
        Checks.due("none", x.numbers(0, 0, 0), 0);
        Checks.due("no longer missing", x.perform(0), 0);
        Checks.fill(x, 1, 1, 5, 5);
        Checks.due("anew", x.numbers(1, 1, 3), 0);
        Checks.due("all 0: three nights", x.perform(1), 3);
    }

    private static void write() {
        DrawerNames x = new DrawerNames();
        Checks.due("no tray", x.write(4, 0, 1), -2);
        Checks.due("no tray", x.write(-1, 0, 1), -2);
        Checks.due("missing", x.write(0, -1, 1), -6);
        long v = 0x1234_5678_9ABC_DEF0L;
        long[] cut = {(byte) 0xF0, (short) 0xDEF0, 0x9ABC_DEF0, v};
        for (int sort = 0; sort < 4; sort++) {
            x.numbers(sort, sort, 2);
            Checks.due("sort " + sort, x.write(sort, 0, v), cut[sort]);
            Checks.due("sort " + sort, x.write(sort, 1, 127), 127);
            Checks.due("no such number", x.write(sort, 2, v), -7);
            Checks.due("no such number", x.write(sort, -1, v), -7);
        }
        Checks.due("128 in 8 bits", x.write(0, 0, 128), -128);
        Checks.due("32768 in 16 bits", x.write(1, 0, 32768), -32768);
    }

    private static void lists() {
        DrawerNames x = Checks.at("desk drawers 4 opens 1;");
        Checks.due("no tray", x.lists(4, 0), -2);
        Checks.due("no tray", x.lists(-1, 99), -2);
        Checks.due("missing first", x.lists(0, 24), -6);
        x.numbers(0, 0, 6);
        Checks.due("no row", x.lists(0, 24), -3);
        Checks.due("no row", x.lists(0, -1), -3);
        x.write(0, 4, 77);
        Checks.due("2 0 3 1", x.lists(0, 13), 4);
        // 2 is no deed, 0 is a night
        Checks.due("the first is 2", x.judge(0, 0), 0);
        Checks.due("0 3 1 2", x.lists(0, 4), 4);
        Checks.due("the second is no deed", x.judge(0, 0), 1);
        x.numbers(1, 3, 2);
        Checks.due("as far as it has places", x.lists(1, 23), 2);
        Checks.due("of 3 and 2 the visit opens but one", x.found(1, 0), 0);
        x.numbers(2, 1, 0);
        Checks.due("none", x.lists(2, 23), 0);
        everyRow();
    }

    /** On a desk where one opens drawer by drawer, the row that is listed is the only one found. */
    private static void everyRow() {
        DrawerNames x = Checks.at("desk drawers 4 opens 4;next : tries;");
        x.numbers(0, 2, 4);
        for (int number = 0; number < 24; number++) {
            x.lists(0, number);
            for (int p = 0; p < 4; p++) {
                // only one whose name lies last opens all four
                int found = x.found(0, p);
                if (found == 1) {
                    Checks.due("last of " + number, x.names(0, p, 3), 1 << p);
                    walkTo(x, p, number);
                }
            }
        }
    }

    private static void walkTo(DrawerNames x, int p, int number) {
        int[] row = new int[4];
        int rest = number;
        boolean[] used = new boolean[4];
        int[] blocks = {6, 2, 1, 1};
        for (int d = 0; d < 4; d++) {
            int rank = rest / blocks[d];
            rest %= blocks[d];
            for (int name = 0; name < 4; name++) {
                if (!used[name] && rank-- == 0) {
                    row[d] = name;
                    used[name] = true;
                    break;
                }
            }
            Checks.due("name in " + d + " of " + number, x.names(0, p, d), 1 << row[d]);
        }
    }

    private static void images() {
        DrawerNames x = Checks.at("desk drawers 3 opens 2;night 0 1;night 1 0;clue 4;next : found;");
        Checks.due("none made", x.restore(0), -5);
        Checks.due("no such", x.restore(2), -2);
        Checks.due("no such", x.restore(-1), -2);
        Checks.due("no such", x.image(2), -2);
        Checks.due("no such", x.image(-1), -2);
        x.nights(1);
        x.clue(6);
        Checks.due("made", x.image(1), 0);
        Checks.due("what can be undone stays", x.count(5), 2);
        Checks.due("none made there", x.restore(0), -5);
        x.swap(0, 2);
        x.nights(3);
        x.clue(1);
        Checks.due("restored", x.restore(1), 0);
        Checks.due("row", x.lies(0), 2);
        Checks.due("nights", x.count(3), 1);
        Checks.due("clue", x.count(2), 6);
        Checks.due("nothing can be undone", x.undo(1), -3);
        x.swap(0, 1);
        Checks.due("restored again", x.restore(1), 0);
        Checks.due("row", x.lies(0), 2);
    }

    private static void imagesAreWhole() {
        DrawerNames x = Checks.at("desk drawers 3 opens 2;night 0 1;night 1 0;clue 4;next : last + 1;stops : tries = 2;");
        int letOff = x.letOff();
        x.image(0);
        Checks.tell(x, "desk drawers 5 opens 5;next : 4;");
        Checks.due("another", x.ofOne(0), 24);
        x.image(1);
        x.numbers(0, 0, 1);
        Checks.due("bad", Checks.tell(x, "desk drawers 5 opens 5;next : ?;"), -31);
        x.feed(0, 0, 0, 0, 0);
        Checks.due("restored", x.restore(0), 0);
        int[] counts = {3, 2, 4, 0, Integer.bitCount(letOff), 0, 20, 6, 6};
        for (int what = 0; what < counts.length; what++) {
            Checks.due("count " + what, x.count(what), counts[what]);
        }
        Checks.due("laws", x.letOff(), letOff);
        Checks.due("laws", x.opened(0, 0), 1);
        Checks.due("nights", x.drawer(0, 1), 1);
        Checks.due("trays stay", x.perform(0), 1);
        Checks.due("the fault stays", x.fault(0), 1);
        Checks.due("the other one", x.restore(1), 0);
        Checks.due("its law", x.opened(0, 0), 4);
        Checks.due("its drawers", x.count(0), 5);
    }

    private static void count() {
        DrawerNames x = Checks.at("desk drawers 6 opens 7;clue 8;");
        x.nights(2);
        x.feed(0, 0, 0, 0, 0);
        int[] counts = {6, 7, 8, 2, 6, 1, 20, 2, 720};
        for (int what = 0; what < counts.length; what++) {
            Checks.due("count " + what, x.count(what), counts[what]);
        }
        Checks.due("others", x.count(9), -1);
        Checks.due("others", x.count(-1), -1);
        int[] rows = {1, 2, 6, 24, 120, 720};
        for (int n = 1; n <= 6; n++) {
            Checks.due("rows of " + n, Checks.at("desk drawers " + n + " opens 1;").count(8), rows[n - 1]);
        }
    }
}
