/** Promises 16 to 20: how names lie, rounds, powers, roots, rows with short rounds. */
public final class RoundsTest {
    private static final String SIX =
            "desk drawers 6 opens 3;name 0 1;name 1 2;name 2 0;name 3 4;name 4 3;";

    private RoundsTest() {
    }

    public static void main(String[] args) {
        lies();
        round();
        power();
        roots();
        bounded();
        Checks.end();
    }

    private static void lies() {
        DrawerNames x = Checks.at(SIX);
        allLies(SIX, 120 + 24 + 2, 3, 3, 1, 6, 3);
        allLies("desk drawers 1 opens 1;", 0, 1, 1, 1, 1, 0);
        manyLies("name 1 2;name 2 1;", 24, 5, 2, 4, 2, 1);
        manyLies("name 0 1;name 1 2;name 2 3;name 3 4;name 4 5;name 5 0;", 153, 1, 6, 0, 6, 5);
        manyLies("name 1 2;name 2 3;name 3 4;name 4 1;", 32, 3, 4, 2, 4, 3);
        Checks.due("no such", x.lies(6), -2);
        Checks.due("no such", x.lies(-1), -2);
        manyLies("name 0 5;name 1 4;name 2 3;name 3 2;name 4 1;name 5 0;", 719, 3, 2, 0, 2, 15);
    }

    private static void manyLies(String names, int... due) {
        allLies("desk drawers 6 opens 1;" + names, due);
    }

    private static void allLies(String text, int... due) {
        DrawerNames x = Checks.at(text);
        for (int what = 0; what < due.length; what++) {
            Checks.due(text + " lies " + what, x.lies(what), due[what]);
        }
    }

    private static void round() {
        DrawerNames x = Checks.at(SIX);
        int[] lengths = {3, 3, 3, 2, 2, 1};
        int[] bits = {7, 7, 7, 24, 24, 32};
        for (int d = 0; d < 6; d++) {
            Checks.due("length of " + d, x.round(d, 0), lengths[d]);
            Checks.due("bits of " + d, x.round(d, 1), bits[d]);
        }
        Checks.due("no such", x.round(6, 0), -2);
        Checks.due("no such", x.round(-1, 0), -2);
        Checks.due("no such", x.round(0, 2), -2);
        Checks.due("no such", x.round(0, -1), -2);
    }

    private static void power() {
        DrawerNames x = Checks.at(SIX);
        Checks.due("0", x.power(0), 0);
        Checks.due("1", x.power(1), 146);
        Checks.due("2: 2 0 1 3 4 5", x.power(2), 240);
        Checks.due("3: 0 1 2 4 3 5", x.power(3), 2);
        Checks.due("6", x.power(6), 0);
        Checks.due("far, as 4: 1 2 0 3 4 5", x.power(1000000000000000L), 144);
        Checks.due("too far", x.power(1000000000000001L), -3);
        Checks.due("below 0", x.power(-1), -3);
        Checks.due("below 0", x.power(Long.MIN_VALUE), -3);
    }

    private static void roots() {
        DrawerNames x = Checks.at("desk drawers 4 opens 1;");
        Checks.due("1", x.roots(1), 1);
        Checks.due("2: 1 + 6 + 3", x.roots(2), 10);
        Checks.due("3: 1 + 8", x.roots(3), 9);
        Checks.due("4: all but 8", x.roots(4), 16);
        Checks.due("5", x.roots(5), 1);
        Checks.due("6: 1 + 6 + 3 + 8", x.roots(6), 18);
        Checks.due("9", x.roots(9), 9);
        Checks.due("0", x.roots(0), -3);
        Checks.due("10", x.roots(10), -3);
        x.swap(0, 1);
        Checks.due("two alone have no square root", x.roots(2), 0);
        Checks.due("by 3 only themselves", x.roots(3), 1);
    }

    private static void bounded() {
        DrawerNames x = new DrawerNames();
        long[] pairs = {1, 2, 4, 10, 26, 76, 232, 764, 2620, 9496};
        for (int n = 1; n <= pairs.length; n++) {
            Checks.due("no round above 2 of " + n, x.bounded(n, 2), pairs[n - 1]);
            Checks.due("no round above 1 of " + n, x.bounded(n, 1), 1);
        }
        long all = 1;
        for (int n = 1; n <= 20; n++) {
            all *= n;
            Checks.due("all of " + n, x.bounded(n, n), all);
            Checks.due("all of " + n, x.bounded(n, 20), all);
            if (n > 1) {
                Checks.due("but one round of " + n, x.bounded(n, n - 1), all - all / n);
            }
        }
        Checks.due("20, 10", x.bounded(20, 10), halves());
        int[][] wrong = {{0, 1}, {21, 1}, {1, 0}, {1, 21}, {-1, -1}, {Integer.MAX_VALUE, 5}};
        for (int[] w : wrong) {
            Checks.due("bounded " + w[0] + " " + w[1], x.bounded(w[0], w[1]), -3);
        }
    }

    /** Of 20 at most one round is longer than 10: by its length l there are 20! / l of them. */
    private static long halves() {
        long all = 1;
        for (int n = 2; n <= 20; n++) {
            all *= n;
        }
        long left = all;
        for (int l = 11; l <= 20; l++) {
            left -= all / l;
        }
        return left;
    }
}
