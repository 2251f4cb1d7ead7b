/** Promises 37 and 38: lots by which neighbours are swapped. */
public final class ChancesTest {
    private ChancesTest() {
    }

    public static void main(String[] args) {
        chance();
        mean();
        refusals();
        Checks.end();
    }

    private static void chances(DrawerNames x, int aim, int n, int above, int below) {
        Checks.due("above, aim " + aim + " behind " + n, x.chance(aim, n, 0), above);
        Checks.due("below, aim " + aim + " behind " + n, x.chance(aim, n, 1), below);
    }

    private static void chance() {
        DrawerNames x = Checks.at("desk drawers 2 opens 1;");
        chances(x, 0, 0, 1, 1);
        chances(x, 1, 0, 0, 1);
        chances(x, 0, 1, 9, 10);
        chances(x, 1, 1, 1, 10);
        chances(x, 0, 2, 41, 50);
        chances(x, 1, 2, 9, 50);
        // (1 + (8/10)^7) / 2
        chances(x, 0, 7, 94509, 156250);
        chances(x, 1, 7, 61741, 156250);
        Checks.tell(x, "desk drawers 6 opens 1;");
        chances(x, 0, 1, 1, 2);
        chances(x, 1, 2, 0, 1);
        // three swaps of neighbours in six orders
        chances(x, 1, 3, 3, 500);
        Checks.tell(x, "desk drawers 6 opens 6;");
        chances(x, 0, 7, 1, 1);
        chances(x, 1, 7, 0, 1);
        Checks.tell(x, "desk drawers 1 opens 1;");
        chances(x, 0, 7, 1, 1);
    }

    private static void means(DrawerNames x, int n, int above, int below) {
        Checks.due("above, behind " + n, x.mean(n, 0), above);
        Checks.due("below, behind " + n, x.mean(n, 1), below);
    }

    private static void mean() {
        DrawerNames x = Checks.at("desk drawers 6 opens 1;");
        means(x, 0, 6, 1);
        means(x, 1, 5, 1);
        x.swap(0, 5);
        means(x, 0, 4, 1);
        Checks.tell(x, "desk drawers 2 opens 1;");
        means(x, 1, 9, 5);
        means(x, 7, 94509, 78125);
        Checks.tell(x, "desk drawers 2 opens 1;stops : 1 = 1;");
        means(x, 7, 0, 1);
        Checks.tell(x, "desk drawers 3 opens 1;next : found + clue;clue 1;");
        means(x, 0, 0, 1);
        // by 0 and 1 the first finds its name, by 1 and 2 the second
        means(x, 1, 1, 5);
    }

    private static void refusals() {
        DrawerNames x = new DrawerNames();
        Checks.due("aim", x.chance(2, 0, 0), -2);
        Checks.due("aim", x.chance(-1, 9, 0), -2);
        Checks.due("what", x.chance(0, 0, 2), -2);
        Checks.due("what first", x.chance(0, 8, -1), -2);
        Checks.due("n", x.chance(0, 8, 0), -3);
        Checks.due("n", x.chance(1, -1, 1), -3);
        Checks.due("mean what", x.mean(0, 2), -2);
        Checks.due("mean what first", x.mean(8, -1), -2);
        Checks.due("mean n", x.mean(8, 0), -3);
        Checks.due("mean n", x.mean(-1, 1), -3);
    }
}
