/** Promises 35 and 36: what the first of two can force. */
public final class TurnsTest {
    private TurnsTest() {
    }

    public static void main(String[] args) {
        forces();
        best();
        refusals();
        Checks.end();
    }

    private static void forces() {
        DrawerNames x = Checks.at("desk drawers 4 opens 1;");
        Checks.due("it is so", x.forces(0), 0);
        Checks.due("nobody: two swaps away, and the other swaps back", x.forces(1), -1);
        x.swap(0, 1);
        Checks.due("one swap away", x.forces(0), 1);
        Checks.due("one swap away", x.forces(1), 1);
        x.swap(1, 2);
        Checks.due("two swaps away", x.forces(0), -1);
        Checks.due("one swap away", x.forces(1), 1);
        Checks.tell(x, "desk drawers 1 opens 1;stops : 1 = 1;");
        Checks.due("never", x.forces(0), -1);
        Checks.due("it is so", x.forces(1), 0);
    }

    private static void best() {
        DrawerNames x = Checks.at("desk drawers 4 opens 1;");
        Checks.due("it is so", x.best(0), -1);
        Checks.due("it can't", x.best(1), -1);
        x.swap(1, 3);
        Checks.due("back", x.best(0), 13);
        Checks.due("the other two", x.best(1), 2);
        Checks.due("nothing was done", x.count(5), 1);
        Checks.tell(x, "desk drawers 4 opens 2;name 0 1;name 1 2;name 2 3;name 3 0;");
        Checks.due("the first of two", x.best(0), 2);
        x.swap(0, 2);
        Checks.due("nobody again", x.best(1), 1);
    }

    private static void refusals() {
        DrawerNames x = new DrawerNames();
        for (int aim : new int[] {-1, 2, Integer.MIN_VALUE, Integer.MAX_VALUE}) {
            Checks.due("forces " + aim, x.forces(aim), -2);
            Checks.due("best " + aim, x.best(aim), -2);
        }
    }
}
