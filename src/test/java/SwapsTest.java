/** Promises 21 to 26: the fewest swaps, their way, rows of swaps, of how many rows it is so. */
public final class SwapsTest {
    private SwapsTest() {
    }

    public static void main(String[] args) {
        toAll();
        toNobody();
        never();
        rows();
        ofAll();
        ofOne();
        just();
        byClue();
        Checks.end();
    }

    private static void toAll() {
        DrawerNames x = Checks.at("desk drawers 6 opens 1;name 0 1;name 1 2;name 2 3;name 3 4;name 4 5;name 5 0;");
        Checks.due("a round of six to six of one", x.fewest(0), 5);
        int[] way = {1, 2, 3, 4, 5};
        for (int i = 0; i < way.length; i++) {
            Checks.due("way " + i, x.way(0, i), way[i]);
        }
        Checks.due("no more", x.way(0, 5), -1);
        Checks.due("far", x.way(0, Integer.MAX_VALUE), -1);
        Checks.due("below 0", x.way(0, -1), -3);
        Checks.due("no aim first", x.way(2, -1), -2);
        Checks.due("no aim", x.fewest(-1), -2);
        Checks.due("nothing was done", x.count(5), 0);
        for (int i = 0; i < 5; i++) {
            int code = x.way(0, 0);
            x.swap(code / 10, code % 10);
        }
        Checks.due("all let off", x.letOff(), 63);
        Checks.due("none needed", x.fewest(0), 0);
        Checks.due("no way", x.way(0, 0), -1);
        Checks.tell(x, "desk drawers 4 opens 2;name 0 1;name 1 2;name 2 3;name 3 0;");
        Checks.due("a round of four to two of two", x.fewest(0), 1);
        Checks.due("the first: not 1, but 2", x.way(0, 0), 2);
    }

    private static void toNobody() {
        DrawerNames x = Checks.at("desk drawers 5 opens 1;");
        Checks.due("five at home", x.fewest(1), 3);
        int[] way = {1, 2, 34};
        for (int i = 0; i < way.length; i++) {
            Checks.due("way " + i, x.way(1, i), way[i]);
        }
        Checks.tell(x, "desk drawers 4 opens 1;");
        Checks.due("four at home", x.fewest(1), 2);
        Checks.due("the first", x.way(1, 0), 1);
        Checks.due("the second", x.way(1, 1), 23);
    }

    private static void never() {
        DrawerNames x = Checks.at("desk drawers 3 opens 3;");
        Checks.due("nobody never", x.fewest(1), -1);
        Checks.due("no way", x.way(1, 0), -1);
        Checks.due("no rows of swaps", x.rows(1, 7), 0);
        Checks.due("of none", x.ofAll(1), 0);
    }

    private static void rows() {
        DrawerNames x = Checks.at("desk drawers 3 opens 1;");
        long[] home = {1, 0, 3, 0, 27, 0, 243, 0};
        for (int n = 0; n < home.length; n++) {
            Checks.due("home by " + n, x.rows(0, n), home[n]);
            Checks.due("nobody by " + n, x.rows(1, n), n == 0 ? 0 : home[n] * 2);
        }
        Checks.due("below 0", x.rows(0, -1), -3);
        Checks.due("above 7", x.rows(0, 8), -3);
        Checks.due("no aim first", x.rows(2, 8), -2);
        Checks.tell(x, "desk drawers 6 opens 6;");
        long all = 1;
        for (int n = 0; n <= 7; n++) {
            Checks.due("any by " + n, x.rows(0, n), all);
            all *= 15;
        }
        Checks.tell(x, "desk drawers 1 opens 1;");
        Checks.due("no swaps there", x.rows(0, 0), 1);
        Checks.due("no swaps there", x.rows(0, 1), 0);
    }

    private static void ofAll() {
        DrawerNames x = Checks.at("desk drawers 6 opens 3;");
        Checks.due("no round above three", x.ofAll(0), 276);
        Checks.due("as bounded", x.ofAll(0), x.bounded(6, 3));
        Checks.due("one round of four and none below", x.ofAll(1), 120);
        Checks.due("no aim", x.ofAll(2), -2);
        Checks.due("no aim", x.ofAll(-1), -2);
    }

    private static void ofOne() {
        DrawerNames x = Checks.at("desk drawers 6 opens 3;");
        for (int p = 0; p < 6; p++) {
            Checks.due("half of all, " + p, x.ofOne(p), 360);
        }
        Checks.due("nobody such", x.ofOne(6), -2);
        Checks.due("nobody such", x.ofOne(-1), -2);
        Checks.tell(x, "desk drawers 4 opens 1;next : 0;stops : me = 3;");
        Checks.due("six of 24", x.ofOne(1), 6);
        Checks.due("never", x.ofOne(3), 0);
    }

    private static void just() {
        DrawerNames x = Checks.at("desk drawers 4 opens 1;");
        int[] homes = {9, 8, 6, 0, 1, 0};
        for (int n = 0; n < homes.length; n++) {
            Checks.due("just " + n, x.just(n), homes[n]);
        }
        Checks.due("far", x.just(Integer.MAX_VALUE), 0);
        Checks.due("below 0", x.just(-1), -3);
    }

    /** All these are as the clue is now. */
    private static void byClue() {
        DrawerNames x = Checks.at("desk drawers 3 opens 1;next : found + clue;");
        Checks.due("home", x.fewest(0), 0);
        x.clue(1);
        Checks.due("by the next drawer", x.fewest(0), 2);
        Checks.due("its way", x.way(0, 0), 1);
        Checks.due("its way", x.way(0, 1), 2);
        Checks.due("rows", x.rows(0, 2), 3);
        x.clue(0);
        Checks.due("home again", x.fewest(0), 0);
    }
}
