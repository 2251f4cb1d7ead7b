import java.lang.reflect.InvocationTargetException;
import java.lang.reflect.Method;
import java.util.Arrays;
import java.util.Comparator;
import java.util.Random;

/** Runs of calls at random, each answered by the class and by the model of the document alike. */
public final class ModelTest {
    private static final int[] INTS = {-1, 0, 0, 0, 0, 1, 1, 1, 1, 2, 2, 2, 3, 3, 3, 4, 4, 5, 5, 6, 7, 8, 9, 10, 11, 20,
        21, 23, 39, 40, 41, 98, 99, 100, 119, 719, 720, Integer.MIN_VALUE, Integer.MAX_VALUE};
    private static final long[] LONGS = {-1, 0, 0, 1, 2, 3, 4, 5, 6, 7, 10, 12, 19, 20, 59, 60, 61, 99, 101, 102, 110,
        123, 145, 155, 199, 200, 255, 65535, 999999999999999L, 1000000000000000L, 1000000000000001L,
        4294967296L, Long.MIN_VALUE, Long.MAX_VALUE};
    private final Random random;
    private final Texts texts;
    private final Method[] calls;
    private final DrawerNames x = new DrawerNames();
    private final Model model = new Model();
    private final StringBuilder told = new StringBuilder();

    private ModelTest(long seed, int mostDrawers) {
        random = new Random(seed);
        texts = new Texts(random, mostDrawers);
        calls = DrawerNames.class.getDeclaredMethods();
        Arrays.sort(calls, Comparator.comparing(Method::toString));
    }

    public static void main(String[] args) throws ReflectiveOperationException {
        int runs = args.length > 0 ? Integer.parseInt(args[0]) : 150;
        long from = args.length > 1 ? Long.parseLong(args[1]) : 0;
        for (long seed = from; seed < from + runs; seed++) {
            int most = seed % 10 == 9 ? 6 : seed % 5 == 4 ? 5 : 4;
            if (!new ModelTest(seed, most).run(most)) {
                break;
            }
        }
        Checks.end();
    }

    private boolean run(int most) throws ReflectiveOperationException {
        int made = 0;
        while (made < 500) {
            if (random.nextInt(30) == 0) {
                int fed = tell();
                if (fed < 0) {
                    return false;
                }
                made += fed;
            } else if (random.nextInt(12) == 0) {
                if (!fillTray()) {
                    return false;
                }
                made += 9;
            } else {
                Method call = calls[random.nextInt(calls.length)];
                if (!java.lang.reflect.Modifier.isPublic(call.getModifiers())) {
                    continue;
                }
                if (most < 5 || !isDear(call.getName()) || random.nextInt(10) == 0) {
                    made++;
                    if (!ask(call, arguments(call))) {
                        return false;
                    }
                }
            }
        }
        return true;
    }

    /** The model goes through far too much for these. */
    private static boolean isDear(String name) {
        return Arrays.asList("fewest", "way", "rows", "forces", "best", "chance", "mean").contains(name);
    }

    private int tell() throws ReflectiveOperationException {
        String text = texts.text();
        Method feed = call("feed");
        int made = 3;
        for (int from = 0; from < text.length(); from += 20) {
            Object[] five = new Object[5];
            for (int i = 0; i < 5; i++) {
                int v = 0;
                for (int k = from + 4 * i; k < from + 4 * i + 4; k++) {
                    v = v << 8 | (k < text.length() ? text.charAt(k) & 255 : ' ');
                }
                five[i] = v;
            }
            made++;
            if (!ask(feed, five)) {
                return -1;
            }
        }
        boolean same = ask(call("desk"), toRead(text.length()));
        return same && ask(call("fault"), 0) && ask(call("fault"), 1) ? made : -1;
    }

    /** Now and then a part of the text, or more than there is. */
    private int toRead(int length) {
        int kind = random.nextInt(40);
        if (kind == 0) {
            return random.nextInt(1000) - 20;
        }
        return kind < 3 ? random.nextInt(length + 1) : length;
    }

    /** Deeds, names found, or sets of people. */
    private boolean fillTray() throws ReflectiveOperationException {
        int tray = random.nextInt(4);
        int size = 1 + random.nextInt(random.nextInt(6) == 0 ? 9 : 3);
        int kind = random.nextInt(3);
        boolean same = ask(call("numbers"), tray, random.nextInt(4), size);
        for (int i = 0; i < size && same; i++) {
            long v;
            if (kind == 0) {
                int[] deeds = {0, 10 + random.nextInt(10), 100 + 10 * random.nextInt(5) + random.nextInt(5)};
                v = deeds[random.nextInt(3)];
            } else {
                v = kind == 1 ? random.nextInt(5) - 1 : model.letOff() ^ (random.nextInt(4) == 0 ? 1 : 0);
            }
            same = ask(call("write"), tray, i, v);
        }
        return same;
    }

    private Method call(String name) {
        return Arrays.stream(calls).filter(c -> c.getName().equals(name)
                && java.lang.reflect.Modifier.isPublic(c.getModifiers())).findFirst().get();
    }

    private Object[] arguments(Method call) {
        Class<?>[] types = call.getParameterTypes();
        Object[] values = new Object[types.length];
        for (int i = 0; i < types.length; i++) {
            if (types[i] == long.class) {
                values[i] = random.nextInt(8) == 0 ? random.nextLong() : LONGS[random.nextInt(LONGS.length)];
            } else {
                values[i] = random.nextInt(16) == 0 ? random.nextInt() : INTS[random.nextInt(INTS.length)];
            }
        }
        return values;
    }

    private boolean ask(Method call, Object... values) throws ReflectiveOperationException {
        Method same = Model.class.getDeclaredMethod(call.getName(), call.getParameterTypes());
        String asked = call.getName() + Arrays.toString(values);
        told.append(asked).append('\n');
        long want = ((Number) same.invoke(model, values)).longValue();
        long got;
        try {
            got = ((Number) call.invoke(x, values)).longValue();
        } catch (InvocationTargetException e) {
            System.out.println(asked + " threw " + e.getCause());
            got = want + 1;
        }
        Checks.due(asked, got, want);
        if (got != want) {
            System.out.println("behind:\n" + told);
        }
        return got == want;
    }
}
