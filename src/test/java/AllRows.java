import java.util.ArrayList;
import java.util.List;

/** All rows of so many names in their order, and how many swaps they are away from an aim, told by their rounds. */
final class AllRows {
    private AllRows() {
    }

    static List<int[]> of(int n) {
        List<int[]> rows = new ArrayList<>();
        add(rows, new int[n], 0, 0);
        return rows;
    }

    private static void add(List<int[]> rows, int[] names, int d, int used) {
        if (d == names.length) {
            rows.add(names.clone());
        }
        for (int name = 0; d < names.length && name < names.length; name++) {
            if ((used >> name & 1) == 0) {
                names[d] = name;
                add(rows, names, d + 1, used | 1 << name);
            }
        }
    }

    static int[] swapped(int[] names, int d, int e) {
        int[] other = names.clone();
        other[d] = names[e];
        other[e] = names[d];
        return other;
    }

    /** Without laws all are let off if no round has more than may be opened; a swap can cut one round in two. */
    static int swapsToAll(int[] names, int opens) {
        int swaps = 0;
        for (int d = 0; d < names.length; d++) {
            int length = 1;
            int least = d;
            for (int to = names[d]; to != d; to = names[to]) {
                length++;
                least = Math.min(least, to);
            }
            swaps += least == d ? (length - 1) / opens : 0;
        }
        return swaps;
    }

    /** If one alone may be opened, nobody is let off if no drawer holds its own number; a swap rids two of theirs. */
    static int swapsToNobody(int[] names) {
        int own = 0;
        for (int d = 0; d < names.length; d++) {
            own += names[d] == d ? 1 : 0;
        }
        return (own + 1) / 2;
    }
}
