/** Promises 27 to 30: very many nights. */
public final class NightsTest {
    private static final String SIX = "desk drawers 6 opens 1;night 0 1;night 1 2;night 2 0;night 3 4;night 4 3;";
    private static final long FAR = 1000000000000000L;

    private NightsTest() {
    }

    public static void main(String[] args) {
        at();
        comesRound();
        first();
        often();
        Checks.end();
    }

    private static void at() {
        DrawerNames x = Checks.at(SIX);
        Checks.due("0", x.at(0), 0);
        Checks.due("1: 2 0 1 4 3 5", x.at(1), 242);
        Checks.due("2: 1 2 0 3 4 5", x.at(2), 144);
        Checks.due("3: 0 1 2 4 3 5", x.at(3), 2);
        Checks.due("far, as 4: 2 0 1 3 4 5", x.at(FAR), 240);
        Checks.due("below 0", x.at(-1), -3);
        Checks.due("too far", x.at(FAR + 1), -3);
        Checks.due("nothing was done", x.count(3), 0);
        for (int n = 1; n < 9; n++) {
            int due = x.at(n);
            x.nights(n);
            Checks.due("as by nights " + n, x.lies(0), due);
            x.undo(1);
        }
    }

    private static void comesRound() {
        DrawerNames x = Checks.at(SIX);
        Checks.due("3 and 2", x.comesRound(), 6);
        Checks.tell(x, "desk drawers 6 opens 1;name 0 1;name 1 0;");
        Checks.due("at once", x.comesRound(), 1);
        Checks.tell(x, "desk drawers 6 opens 1;night 0 1;night 1 2;night 2 3;night 3 4;night 4 0;");
        Checks.due("five", x.comesRound(), 5);
    }

    private static void first() {
        DrawerNames x = Checks.at(SIX);
        Checks.due("now", x.first(0), 0);
        Checks.due("never nobody", x.first(1), -1);
        x.nights(1);
        Checks.due("five more", x.first(0), 5);
        x.swap(0, 1);
        Checks.due("never", x.first(0), -1);
        Checks.due("no aim", x.first(2), -2);
        Checks.due("no aim", x.first(-1), -2);
        Checks.tell(x, "desk drawers 2 opens 1;night 0 1;night 1 0;");
        Checks.due("tomorrow", x.first(1), 1);
    }

    private static void often() {
        DrawerNames x = Checks.at(SIX);
        Checks.due("of none", x.often(0, 0), 0);
        Checks.due("not counting now", x.often(0, 5), 0);
        Checks.due("the sixth", x.often(0, 6), 1);
        Checks.due("of very many", x.often(0, FAR), FAR / 6);
        x.nights(4);
        Checks.due("the second", x.often(0, 1), 0);
        Checks.due("the second", x.often(0, 2), 1);
        Checks.due("the second, the eighth", x.often(0, 8), 2);
        Checks.due("of very many", x.often(0, FAR), FAR / 6 + 1);
        Checks.due("nobody", x.often(1, FAR), 0);
        Checks.due("below 0", x.often(0, -1), -3);
        Checks.due("too far", x.often(0, FAR + 1), -3);
        Checks.due("no aim first", x.often(2, -1), -2);
        Checks.tell(x, "desk drawers 2 opens 2;");
        Checks.due("each", x.often(0, FAR), FAR);
    }
}
