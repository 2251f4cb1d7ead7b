import java.lang.management.ManagementFactory;

/** All calls of a run live in one room: the dearest runs of calls must leave most of it free. */
public final class RoomTest {
    /** Of some 7.3 million elements, each of 8 bytes at most. */
    private static final long BYTES_PER_RUN = 1500000;
    private static final String SIX =
            "desk drawers 6 opens 9;night 0 1;night 1 2;night 2 0;next:found*2+last-clue+tries*me;stops:tries>7 and me=3;";

    private RoomTest() {
    }

    public static void main(String[] args) {
        for (int round = 0; round < 3; round++) {
            questions();
            desks();
            objects();
        }
        Checks.end();
    }

    private static long used() {
        return ((com.sun.management.ThreadMXBean) ManagementFactory.getThreadMXBean()).getCurrentThreadAllocatedBytes();
    }

    private static void questions() {
        long before = used();
        DrawerNames x = new DrawerNames();
        Checks.tell(x, SIX);
        x.numbers(0, 1, 3);
        for (int i = 0; i < 30; i++) {
            x.clue(i % 10);
            x.swap(i % 6, (i + 1) % 6);
            x.roots(2);
            x.fewest(0);
            x.way(1, 2);
            x.rows(0, 7);
            x.ofAll(1);
            x.often(0, 1000);
            x.found(0, 1);
            x.clues(0);
            x.forces(0);
            x.best(1);
            x.chance(0, 7, 1);
            x.mean(7, 0);
            x.year(i, 40);
        }
        Checks.holds("questions used " + (used() - before), used() - before < BYTES_PER_RUN);
    }

    private static void desks() {
        long before = used();
        DrawerNames x = new DrawerNames();
        for (int i = 0; i < 55; i++) {
            Checks.tell(x, SIX);
            x.ofAll(0);
            x.image(i % 2);
        }
        Checks.holds("desks used " + (used() - before), used() - before < BYTES_PER_RUN);
    }

    private static void objects() {
        long before = used();
        for (int i = 0; i < 50; i++) {
            DrawerNames x = new DrawerNames();
            x.letOff();
        }
        Checks.holds("objects used " + (used() - before), used() - before < BYTES_PER_RUN);
    }
}
