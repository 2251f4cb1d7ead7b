import java.util.Arrays;

/** Drawers that hold the names of others, and the people who look for their own. */
public final class DrawerNames {
    public static final int NONE = -1;

    private static final int NO_SUCH = -2;
    private static final int BAD_NUMBER = -3;
    private static final int TOO_MANY = -4;
    private static final int NOT_NOW = -5;
    private static final int TRAY_MISSING = -6;
    private static final int NO_PLACE = -7;
    private static final int NO_DEED = -11;
    private static final int BAD_TEXT = -30;

    private static final int MOST_DRAWERS = 6;
    private static final int MOST_OPENS = 9;
    private static final int MOST_PAIRS = 15;
    private static final int CLUES = 10;
    private static final int TAPE_SIZE = 900;
    private static final int MOST_UNDONE = 10;
    private static final int MOST_NIGHTS_AT_ONCE = 99;
    private static final int MOST_TIMES = 40;
    private static final int TRAYS = 4;
    private static final int TRAY_SIZE = 40;
    private static final int MOST_TOLD = 8;
    private static final int SORTS = 4;
    private static final int IMAGES = 2;
    private static final int MOST_STEPS = 7;
    private static final int MOST_THINGS = 20;
    private static final int LOTS = 10;
    private static final long FAR = 1000000000000000L;

    private static final int NIGHT_DEED = 0;
    private static final int CLUE_DEED = 10;
    private static final int SWAP_DEED = 100;

    private final byte[] tape = new byte[TAPE_SIZE];
    private int tapeLength = 0;
    private final Reader reader = new Reader();
    private Desk table;
    private final State now = new State();
    private final State before = new State();
    private final State judged = new State();
    private final State[] undone = new State[MOST_UNDONE];
    private int undoable = 0;
    private int drawn = 0;
    private final Tray[] trays = new Tray[TRAYS];
    private final Picture[] pictures = new Picture[IMAGES];
    private final Rows all = new Rows();
    private final Visits visits = new Visits(all);
    private final Ways ways = new Ways(all, visits);
    private final Spread spread = new Spread(all);
    private final int[] lying = new int[MOST_DRAWERS * MOST_DRAWERS];
    private final long[] bounds = new long[MOST_THINGS + 1];

    public DrawerNames() {
        for (int i = 0; i < undone.length; i++) {
            undone[i] = new State();
        }
        for (int i = 0; i < trays.length; i++) {
            trays[i] = new Tray();
        }
        for (int i = 0; i < pictures.length; i++) {
            pictures[i] = new Picture();
        }
        table = new Desk(reader);
        sitAt(table);
    }

    // ---- the desk

    public int feed(int a, int b, int c, int d, int e) {
        if (tapeLength + 20 > TAPE_SIZE) {
            return NOT_NOW;
        }
        putOnTape(a);
        putOnTape(b);
        putOnTape(c);
        putOnTape(d);
        putOnTape(e);
        return tapeLength;
    }

    private void putOnTape(int four) {
        for (int shift = 24; shift >= 0 && tapeLength < TAPE_SIZE; shift -= 8) {
            tape[tapeLength] = (byte) (four >> shift);
            tapeLength++;
        }
    }

    public int desk(int n) {
        if (n < 0 || n > tapeLength) {
            return BAD_NUMBER;
        }
        tapeLength = 0;
        reader.read(tape, n);
        if (reader.fault != 0) {
            return BAD_TEXT - reader.fault;
        }
        Desk told = new Desk(reader);
        sitAt(told);
        now.row = told.firstRow;
        now.clue = told.firstClue;
        now.nights = 0;
        undoable = 0;
        return told.lines;
    }

    private void sitAt(Desk other) {
        table = other;
        all.hold(other.drawers);
        visits.sitAt(other);
    }

    public int fault(int what) {
        if (what == 0) {
            return reader.fault;
        }
        if (what == 1 && reader.fault != 0) {
            return reader.place;
        }
        return NONE;
    }

    public int drawer(int d, int what) {
        if (!isDrawer(d) || !isOneOf(what, 2)) {
            return NO_SUCH;
        }
        return all.nameIn(what == 0 ? now.row : table.nightRow, d);
    }

    /** People are numbered like drawers, so this tests both. */
    private boolean isDrawer(int d) {
        return isOneOf(d, table.drawers);
    }

    private static boolean isOneOf(int number, int howMany) {
        return number >= 0 && number < howMany;
    }

    public int visit(int p, int what) {
        if (!isDrawer(p) || !isOneOf(what, 2)) {
            return NO_SUCH;
        }
        visits.go(p, now.row, now.clue);
        if (what == 1) {
            return visits.length;
        }
        return visits.free ? 1 : 0;
    }

    public int opened(int p, int i) {
        if (!isDrawer(p)) {
            return NO_SUCH;
        }
        if (i < 0) {
            return BAD_NUMBER;
        }
        visits.go(p, now.row, now.clue);
        return i < visits.length ? visits.openedAt(i) : NONE;
    }

    public int letOff() {
        return visits.maskOf(now.row, now.clue);
    }

    private int howManyFree() {
        return Integer.bitCount(visits.maskOf(now.row, now.clue));
    }

    // ---- deeds

    public int swap(int d, int e) {
        if (!canSwap(d, e)) {
            return NO_DEED;
        }
        keepForUndoing(now);
        now.row = all.swappedRow(now.row, d, e);
        return howManyFree();
    }

    private boolean canSwap(int d, int e) {
        return isDrawer(d) && isDrawer(e) && d != e;
    }

    public int nights(int n) {
        if (n < 1 || n > MOST_NIGHTS_AT_ONCE) {
            return BAD_NUMBER;
        }
        keepForUndoing(now);
        now.row = rowBehind(n);
        now.nights += n;
        return howManyFree();
    }

    private int rowBehind(long nightsGone) {
        return all.movedRow(now.row, all.powerOf(table.nightRow, nightsGone));
    }

    public int clue(int n) {
        if (!isOneOf(n, CLUES)) {
            return NO_DEED;
        }
        keepForUndoing(now);
        int was = now.clue;
        now.clue = n;
        return was;
    }

    public int undo(int n) {
        if (n < 1 || n > MOST_UNDONE || n > undoable) {
            return BAD_NUMBER;
        }
        undoable -= n;
        now.become(undone[undoable]);
        return undoable;
    }

    private void keepForUndoing(State state) {
        if (undoable >= MOST_UNDONE) {
            forgetEldest();
        }
        undone[undoable].become(state);
        undoable++;
    }

    private void forgetEldest() {
        State eldest = undone[0];
        for (int i = 1; i < undone.length; i++) {
            undone[i - 1] = undone[i];
        }
        undone[undone.length - 1] = eldest;
        undoable = undone.length - 1;
    }

    public int judge(int tray, int what) {
        if (!isOneOf(tray, TRAYS) || !isOneOf(what, 4)) {
            return NO_SUCH;
        }
        Tray deeds = trays[tray];
        if (deeds.isMissing()) {
            return TRAY_MISSING;
        }
        judged.become(now);
        int done = doDeeds(judged, deeds);
        switch (what) {
            case 0:
                return done < deeds.size ? done : NONE;
            case 1:
                return done < deeds.size ? 1 : 0;
            case 2:
                return judged.row;
            default:
                return visits.maskOf(judged.row, judged.clue);
        }
    }

    private int doDeeds(State state, Tray deeds) {
        int done = 0;
        while (done < deeds.size && doDeed(state, deeds.valueAt(done))) {
            done++;
        }
        return done;
    }

    private boolean doDeed(State state, long deed) {
        if (deed == NIGHT_DEED) {
            state.row = all.movedRow(state.row, table.nightRow);
            state.nights++;
            return true;
        }
        if (deed >= CLUE_DEED && deed < CLUE_DEED + CLUES) {
            state.clue = (int) (deed - CLUE_DEED);
            return true;
        }
        if (deed >= SWAP_DEED && deed < SWAP_DEED + 100) {
            return doSwap(state, (int) (deed - SWAP_DEED) / 10, (int) (deed % 10));
        }
        return false;
    }

    private boolean doSwap(State state, int d, int e) {
        if (!canSwap(d, e)) {
            return false;
        }
        state.row = all.swappedRow(state.row, d, e);
        return true;
    }

    public int perform(int tray) {
        if (!isOneOf(tray, TRAYS)) {
            return NO_SUCH;
        }
        Tray deeds = trays[tray];
        if (deeds.isMissing()) {
            return TRAY_MISSING;
        }
        before.become(now);
        int done = doDeeds(now, deeds);
        if (done > 0) {
            keepForUndoing(before);
        }
        return done;
    }

    public int year(int seed, int times) {
        if (times < 1 || times > MOST_TIMES) {
            return BAD_NUMBER;
        }
        before.become(now);
        drawn = seed;
        int done = 0;
        for (int i = 0; i < times; i++) {
            if (doDeed(now, drawDeed())) {
                done++;
            }
        }
        if (done > 0) {
            keepForUndoing(before);
        }
        return done;
    }

    private int drawDeed() {
        int kind = draw() % 4;
        if (kind < 2) {
            return NIGHT_DEED;
        }
        if (kind == 2) {
            return CLUE_DEED + draw() % CLUES;
        }
        int d = draw() % MOST_DRAWERS;
        int e = draw() % MOST_DRAWERS;
        return SWAP_DEED + 10 * d + e;
    }

    private int draw() {
        drawn = 1103515245 * drawn + 12345;
        return drawn >>> 16;
    }

    // ---- rounds

    public int lies(int what) {
        switch (what) {
            case 0:
                return now.row;
            case 1:
                return all.roundsOf(now.row);
            case 2:
                return all.longestOf(now.row);
            case 3:
                return all.fixedOf(now.row);
            case 4:
                return all.orderOf(now.row);
            case 5:
                return all.inversionsOf(now.row);
            default:
                return NO_SUCH;
        }
    }

    public int round(int d, int what) {
        if (!isDrawer(d) || !isOneOf(what, 2)) {
            return NO_SUCH;
        }
        int bits = all.roundBits(now.row, d);
        return what == 0 ? Integer.bitCount(bits) : bits;
    }

    public int power(long k) {
        if (k < 0 || k > FAR) {
            return BAD_NUMBER;
        }
        return all.powerOf(now.row, k);
    }

    public int roots(int k) {
        if (k < 1 || k > 9) {
            return BAD_NUMBER;
        }
        int howMany = 0;
        for (int row = 0; row < all.count; row++) {
            if (all.isRoot(row, k, now.row)) {
                howMany++;
            }
        }
        return howMany;
    }

    public long bounded(int n, int k) {
        if (n < 1 || n > MOST_THINGS || k < 1 || k > MOST_THINGS) {
            return BAD_NUMBER;
        }
        bounds[0] = 1;
        for (int things = 1; things <= n; things++) {
            bounds[things] = boundedBy(things, k);
        }
        return bounds[n];
    }

    /** By the length of the round in which the last thing lies; its companions stand in a row. */
    private long boundedBy(int things, int k) {
        long sum = 0;
        long companions = 1;
        for (int length = 1; length <= things && length <= k; length++) {
            sum += companions * bounds[things - length];
            companions *= things - length;
        }
        return sum;
    }

    // ---- swaps

    private static boolean isAim(int aim) {
        return aim == 0 || aim == 1;
    }

    public int fewest(int aim) {
        if (!isAim(aim)) {
            return NO_SUCH;
        }
        ways.measure(aim, now.clue);
        return ways.stepsFrom(now.row);
    }

    public int way(int aim, int i) {
        if (!isAim(aim)) {
            return NO_SUCH;
        }
        if (i < 0) {
            return BAD_NUMBER;
        }
        ways.measure(aim, now.clue);
        if (i >= ways.stepsFrom(now.row)) {
            return NONE;
        }
        int row = now.row;
        for (int step = 0; step < i; step++) {
            row = all.bySwap(row, ways.pairFrom(row));
        }
        return all.codeOf(ways.pairFrom(row));
    }

    public long rows(int aim, int n) {
        if (!isAim(aim)) {
            return NO_SUCH;
        }
        if (n < 0 || n > MOST_STEPS) {
            return BAD_NUMBER;
        }
        spread.begin(now.row);
        for (int i = 0; i < n; i++) {
            spread.bySwaps();
        }
        return weightOf(aim);
    }

    private long weightOf(int aim) {
        int goal = visits.goalOf(aim);
        long sum = 0;
        for (int row = 0; row < all.count; row++) {
            long weight = spread.weightAt(row);
            if (weight != 0 && visits.maskOf(row, now.clue) == goal) {
                sum += weight;
            }
        }
        return sum;
    }

    public int ofAll(int aim) {
        if (!isAim(aim)) {
            return NO_SUCH;
        }
        return rowsWithJust(aim == 0 ? table.drawers : 0);
    }

    public int ofOne(int p) {
        if (!isDrawer(p)) {
            return NO_SUCH;
        }
        int howMany = 0;
        for (int row = 0; row < all.count; row++) {
            howMany += (visits.maskOf(row, now.clue) >> p) & 1;
        }
        return howMany;
    }

    public int just(int n) {
        return n < 0 ? BAD_NUMBER : rowsWithJust(n);
    }

    private int rowsWithJust(int people) {
        int howMany = 0;
        for (int row = 0; row < all.count; row++) {
            if (Integer.bitCount(visits.maskOf(row, now.clue)) == people) {
                howMany++;
            }
        }
        return howMany;
    }

    // ---- nights

    public int at(long n) {
        if (n < 0 || n > FAR) {
            return BAD_NUMBER;
        }
        return rowBehind(n);
    }

    public int comesRound() {
        return all.orderOf(table.nightRow);
    }

    public int first(int aim) {
        if (!isAim(aim)) {
            return NO_SUCH;
        }
        int period = all.orderOf(table.nightRow);
        int goal = visits.goalOf(aim);
        for (int n = 0; n < period; n++) {
            if (visits.maskOf(rowBehind(n), now.clue) == goal) {
                return n;
            }
        }
        return NONE;
    }

    public long often(int aim, long n) {
        if (!isAim(aim)) {
            return NO_SUCH;
        }
        if (n < 0 || n > FAR) {
            return BAD_NUMBER;
        }
        int period = Math.max(1, all.orderOf(table.nightRow));
        return n / period * hitsWithin(aim, period) + hitsWithin(aim, (int) (n % period));
    }

    private int hitsWithin(int aim, int n) {
        int goal = visits.goalOf(aim);
        int hits = 0;
        for (int i = 1; i <= n; i++) {
            if (visits.maskOf(rowBehind(i), now.clue) == goal) {
                hits++;
            }
        }
        return hits;
    }

    // ---- found

    public int found(int tray, int p) {
        int refused = refusalOfFound(tray, p, 0);
        return refused != 0 ? refused : gatherFound(trays[tray], p);
    }

    public int names(int tray, int p, int d) {
        int refused = refusalOfFound(tray, p, d);
        if (refused != 0) {
            return refused;
        }
        gatherFound(trays[tray], p);
        int bits = 0;
        for (int name = 0; name < table.drawers; name++) {
            if (lying[d * MOST_DRAWERS + name] > 0) {
                bits |= 1 << name;
            }
        }
        return bits;
    }

    public int look(int tray, int p) {
        int refused = refusalOfFound(tray, p, 0);
        if (refused != 0) {
            return refused;
        }
        if (gatherFound(trays[tray], p) == 0) {
            return NONE;
        }
        int best = 0;
        for (int d = 1; d < table.drawers; d++) {
            if (mostLying(d) < mostLying(best)) {
                best = d;
            }
        }
        return best;
    }

    private int mostLying(int d) {
        int most = 0;
        for (int name = 0; name < table.drawers; name++) {
            most = Math.max(most, lying[d * MOST_DRAWERS + name]);
        }
        return most;
    }

    private int refusalOfFound(int tray, int p, int d) {
        if (!isOneOf(tray, TRAYS) || !isDrawer(p) || !isDrawer(d)) {
            return NO_SUCH;
        }
        return refusalOfNumbers(trays[tray], NONE, table.drawers - 1);
    }

    private static int refusalOfNumbers(Tray told, int least, int most) {
        if (told.isMissing()) {
            return TRAY_MISSING;
        }
        if (told.size < 1 || told.size > MOST_TOLD) {
            return TOO_MANY;
        }
        for (int i = 0; i < told.size; i++) {
            if (told.valueAt(i) < least || told.valueAt(i) > most) {
                return BAD_NUMBER;
            }
        }
        return 0;
    }

    /** Counts the rows that fit what was found, and in lying how often which name lies where. */
    private int gatherFound(Tray told, int p) {
        Arrays.fill(lying, 0);
        int howMany = 0;
        for (int row = 0; row < all.count; row++) {
            if (fits(told, p, row)) {
                howMany++;
                countLying(row);
            }
        }
        return howMany;
    }

    private void countLying(int row) {
        for (int d = 0; d < table.drawers; d++) {
            int i = d * MOST_DRAWERS + all.nameIn(row, d);
            if (i >= 0 && i < lying.length) {
                lying[i]++;
            }
        }
    }

    private boolean fits(Tray told, int p, int row) {
        visits.go(p, row, now.clue);
        if (visits.length < told.size) {
            return false;
        }
        for (int i = 0; i < told.size; i++) {
            long name = told.valueAt(i);
            if (name != NONE && name != all.nameIn(row, visits.openedAt(i))) {
                return false;
            }
        }
        return true;
    }

    public int clues(int tray) {
        if (!isOneOf(tray, TRAYS)) {
            return NO_SUCH;
        }
        Tray told = trays[tray];
        int refused = refusalOfNumbers(told, 0, (1 << table.drawers) - 1);
        if (refused != 0) {
            return refused;
        }
        int bits = 0;
        for (int c = 0; c < CLUES; c++) {
            if (wereLetOff(told, c)) {
                bits |= 1 << c;
            }
        }
        return bits;
    }

    private boolean wereLetOff(Tray told, int withClue) {
        int row = now.row;
        for (int i = 0; i < told.size; i++) {
            row = all.movedRow(row, table.nightRow);
            if (visits.maskOf(row, withClue) != told.valueAt(i)) {
                return false;
            }
        }
        return true;
    }

    // ---- by turns

    /**
     * The other one can always swap back at once what the first one swapped, so nothing can be
     * forced that one swap can't reach.
     */
    public int forces(int aim) {
        if (!isAim(aim)) {
            return NO_SUCH;
        }
        if (visits.maskOf(now.row, now.clue) == visits.goalOf(aim)) {
            return 0;
        }
        return pairTo(aim) == NONE ? NONE : 1;
    }

    public int best(int aim) {
        if (!isAim(aim)) {
            return NO_SUCH;
        }
        if (visits.maskOf(now.row, now.clue) == visits.goalOf(aim)) {
            return NONE;
        }
        int pair = pairTo(aim);
        return pair == NONE ? NONE : all.codeOf(pair);
    }

    private int pairTo(int aim) {
        int goal = visits.goalOf(aim);
        all.prepareSwaps();
        for (int pair = 0; pair < all.pairs; pair++) {
            if (visits.maskOf(all.bySwap(now.row, pair), now.clue) == goal) {
                return pair;
            }
        }
        return NONE;
    }

    // ---- chances

    public int chance(int aim, int n, int what) {
        if (!isAim(aim) || !isOneOf(what, 2)) {
            return NO_SUCH;
        }
        if (n < 0 || n > MOST_STEPS) {
            return BAD_NUMBER;
        }
        long below = drawLots(n);
        return inLowestTerms(weightOf(aim), below, what);
    }

    public int mean(int n, int what) {
        if (!isOneOf(what, 2)) {
            return NO_SUCH;
        }
        if (n < 0 || n > MOST_STEPS) {
            return BAD_NUMBER;
        }
        long below = drawLots(n);
        long above = 0;
        for (int row = 0; row < all.count; row++) {
            long weight = spread.weightAt(row);
            if (weight != 0) {
                above += weight * Integer.bitCount(visits.maskOf(row, now.clue));
            }
        }
        return inLowestTerms(above, below, what);
    }

    private long drawLots(int n) {
        long ways = 1;
        spread.begin(now.row);
        for (int i = 0; i < n; i++) {
            spread.byLots();
            ways *= LOTS;
        }
        return ways;
    }

    private static int inLowestTerms(long above, long below, int what) {
        long divisor = Math.max(1, greatestDivisor(above, below));
        return (int) ((what == 0 ? above : below) / divisor);
    }

    private static long greatestDivisor(long a, long b) {
        long greater = a;
        long lesser = b;
        for (int i = 0; i < 200 && lesser != 0; i++) {
            long rest = greater % lesser;
            greater = lesser;
            lesser = rest;
        }
        return greater;
    }

    // ---- trays, images

    public int numbers(int tray, int sort, int n) {
        if (!isOneOf(tray, TRAYS) || !isOneOf(sort, SORTS)) {
            return NO_SUCH;
        }
        if (n < 0 || n > TRAY_SIZE) {
            return BAD_NUMBER;
        }
        trays[tray].empty(sort, n);
        return 0;
    }

    public long write(int tray, int i, long v) {
        if (!isOneOf(tray, TRAYS)) {
            return NO_SUCH;
        }
        Tray to = trays[tray];
        if (to.isMissing()) {
            return TRAY_MISSING;
        }
        if (!isOneOf(i, to.size)) {
            return NO_PLACE;
        }
        return to.put(i, v);
    }

    public int lists(int tray, int number) {
        if (!isOneOf(tray, TRAYS)) {
            return NO_SUCH;
        }
        Tray to = trays[tray];
        if (to.isMissing()) {
            return TRAY_MISSING;
        }
        if (!isOneOf(number, all.count)) {
            return BAD_NUMBER;
        }
        int howMany = Math.min(to.size, table.drawers);
        for (int d = 0; d < howMany; d++) {
            to.put(d, all.nameIn(number, d));
        }
        return howMany;
    }

    public int image(int i) {
        if (!isOneOf(i, IMAGES)) {
            return NO_SUCH;
        }
        pictures[i].table = table;
        pictures[i].state.become(now);
        return 0;
    }

    public int restore(int i) {
        if (!isOneOf(i, IMAGES)) {
            return NO_SUCH;
        }
        Desk kept = pictures[i].table;
        if (kept == null) {
            return NOT_NOW;
        }
        sitAt(kept);
        now.become(pictures[i].state);
        undoable = 0;
        return 0;
    }

    public int count(int what) {
        switch (what) {
            case 0:
                return table.drawers;
            case 1:
                return table.opens;
            case 2:
                return now.clue;
            case 3:
                return now.nights;
            case 4:
                return howManyFree();
            case 5:
                return undoable;
            case 6:
                return tapeLength;
            case 7:
                return table.lines;
            case 8:
                return all.count;
            default:
                return NONE;
        }
    }

    /** What a call could bring back by undoing. */
    private static final class State {
        private int row = 0;
        private int clue = 0;
        private int nights = 0;

        private void become(State other) {
            row = other.row;
            clue = other.clue;
            nights = other.nights;
        }
    }

    /** An image; without a desk none was made. */
    private static final class Picture {
        private Desk table = null;
        private final State state = new State();
    }

    /** Numbers of one sort; they are kept as they would be cut to it. */
    private static final class Tray {
        private int sort = 0;
        private int size = NONE;
        private final long[] values = new long[TRAY_SIZE];

        private boolean isMissing() {
            return size < 0;
        }

        private void empty(int newSort, int newSize) {
            sort = newSort;
            size = newSize;
            Arrays.fill(values, 0L);
        }

        private long valueAt(int i) {
            return i >= 0 && i < values.length ? values[i] : 0;
        }

        private long put(int i, long v) {
            long cut = cutToSort(v);
            if (i >= 0 && i < values.length) {
                values[i] = cut;
            }
            return cut;
        }

        private long cutToSort(long v) {
            switch (sort) {
                case 0:
                    return (byte) v;
                case 1:
                    return (short) v;
                case 2:
                    return (int) v;
                default:
                    return v;
            }
        }
    }

    /** What a text told; it never changes, so that images may share it. */
    private static final class Desk {
        private final int drawers;
        private final int opens;
        private final int firstClue;
        private final int firstRow;
        private final int nightRow;
        private final int lines;
        private final Law next;
        private final Law stops;

        private Desk(Reader told) {
            drawers = told.drawers;
            opens = told.opens;
            firstClue = told.clue;
            firstRow = Rows.numberOf(told.names, told.drawers);
            nightRow = Rows.numberOf(told.goes, told.drawers);
            lines = told.lines;
            next = told.next.asLaw();
            stops = told.stops.asLaw();
        }
    }

    /** A law as a row of steps upon a stack; what is 0 or more is a number of the text. */
    private static final class Law {
        private static final int ME = -1;
        private static final int FOUND = -2;
        private static final int LAST = -3;
        private static final int TRIES = -4;
        private static final int CLUE = -5;
        private static final int PLUS = -6;
        private static final int MINUS = -7;
        private static final int TIMES = -8;
        private static final int EQUAL = -9;
        private static final int LESS = -10;
        private static final int MORE = -11;
        private static final int AND = -12;
        private static final int OR = -13;
        private static final int NOT = -14;
        private static final int CHOOSE = -15;
        private static final int FACTS = 5;
        private static final long MOST = 1000000L;

        private final int[] steps;
        private final int[] stack;

        private Law(int[] steps, int height) {
            this.steps = steps;
            this.stack = new int[Math.max(1, height)];
        }

        /** The facts stand in the order of their steps: me, found, last, tries, clue. */
        private int tell(int[] facts) {
            int top = 0;
            for (int i = 0; i < steps.length; i++) {
                int step = steps[i];
                if (step >= -FACTS) {
                    if (top < stack.length && -step <= facts.length) {
                        stack[top] = step >= 0 ? step : facts[-step - 1];
                        top++;
                    }
                } else if (step == NOT) {
                    if (top >= 1) {
                        stack[top - 1] = 1 - stack[top - 1];
                    }
                } else if (step == CHOOSE) {
                    if (top >= 3) {
                        stack[top - 3] = stack[top - 3] != 0 ? stack[top - 2] : stack[top - 1];
                        top -= 2;
                    }
                } else if (top >= 2) {
                    stack[top - 2] = joined(step, stack[top - 2], stack[top - 1]);
                    top--;
                }
            }
            return stack[0];
        }

        private static int joined(int step, int a, int b) {
            switch (step) {
                case PLUS:
                    return kept((long) a + b);
                case MINUS:
                    return kept((long) a - b);
                case TIMES:
                    return kept((long) a * b);
                case EQUAL:
                    return a == b ? 1 : 0;
                case LESS:
                    return a < b ? 1 : 0;
                case MORE:
                    return a > b ? 1 : 0;
                case AND:
                    return a & b;
                case OR:
                    return a | b;
                default:
                    return 0;
            }
        }

        private static int kept(long v) {
            if (v > MOST) {
                return (int) MOST;
            }
            return v < -MOST ? (int) -MOST : (int) v;
        }
    }

    /** A law while it is being read. */
    private static final class Draft {
        private final int[] steps = new int[TAPE_SIZE];
        private int length = 0;
        private int height = 0;
        private int highest = 0;

        private void clear() {
            length = 0;
            height = 0;
            highest = 0;
        }

        private void add(int step) {
            if (length < steps.length) {
                steps[length] = step;
                length++;
            }
            height += growth(step);
            highest = Math.max(highest, height);
        }

        private static int growth(int step) {
            if (step >= -Law.FACTS) {
                return 1;
            }
            if (step == Law.NOT) {
                return 0;
            }
            return step == Law.CHOOSE ? -2 : -1;
        }

        private Law asLaw() {
            return length == 0 ? null : new Law(Arrays.copyOf(steps, length), highest);
        }
    }

    /** Reads a text; with a fault its token is stuck, so that all rules end of themselves. */
    private static final class Reader {
        private static final int NO_TOKEN = 1;
        private static final int MISPLACED = 2;
        private static final int OUT_OF_BOUNDS = 3;
        private static final int TOO_DEEP = 4;
        private static final int DEEPEST = 6;

        private static final int END = 0;
        private static final int NUMBER = 1;
        private static final int STUCK = 2;
        private static final String SIGNS = ";:+-*()[]=<>";
        private static final String WORDS =
                "desk drawers opens name night clue next stops if then else end me found last tries or and not ";
        private static final int DESK = 300;
        private static final int DRAWERS = 301;
        private static final int OPENS = 302;
        private static final int NAME = 303;
        private static final int NIGHT = 304;
        private static final int CLUE = 305;
        private static final int NEXT = 306;
        private static final int STOPS = 307;
        private static final int IF = 308;
        private static final int THEN = 309;
        private static final int ELSE = 310;
        private static final int END_IF = 311;
        private static final int ME = 312;
        private static final int FOUND = 313;
        private static final int LAST = 314;
        private static final int TRIES = 315;
        private static final int OR = 316;
        private static final int AND = 317;
        private static final int NOT = 318;
        private static final int OTHER_WORD = 319;

        private int fault = 0;
        private int place = 0;
        private int drawers = 1;
        private int opens = 1;
        private int clue = 0;
        private int lines = 0;
        private final int[] names = new int[MOST_DRAWERS];
        private final int[] goes = new int[MOST_DRAWERS];
        private final Draft next = new Draft();
        private final Draft stops = new Draft();

        private byte[] text = null;
        private int length = 0;
        private int head = 0;
        private int token = STUCK;
        private int start = 0;
        private int value = 0;
        private int depth = 0;
        private Draft draft = next;

        private void read(byte[] from, int n) {
            clear();
            text = from;
            length = Math.min(n, from.length);
            advance();
            header();
            for (int i = 0; i < length && fault == 0 && token != END; i++) {
                line();
                expect(';');
                lines++;
            }
            if (!isWhole(names) || !isWhole(goes)) {
                fail(OUT_OF_BOUNDS);
            }
        }

        private void clear() {
            fault = 0;
            clue = 0;
            lines = 0;
            head = 0;
            depth = 0;
            for (int i = 0; i < MOST_DRAWERS; i++) {
                names[i] = i;
                goes[i] = i;
            }
            next.clear();
            stops.clear();
        }

        private void header() {
            expect(DESK);
            expect(DRAWERS);
            drawers = number(1, MOST_DRAWERS);
            expect(OPENS);
            opens = number(1, MOST_OPENS);
            expect(';');
            lines = 1;
        }

        private boolean isWhole(int[] numbers) {
            int bits = 0;
            for (int d = 0; d < drawers && d < numbers.length; d++) {
                bits |= 1 << numbers[d];
            }
            return bits == (1 << drawers) - 1;
        }

        private void line() {
            switch (token) {
                case NAME:
                    advance();
                    tell(names);
                    break;
                case NIGHT:
                    advance();
                    tell(goes);
                    break;
                case CLUE:
                    advance();
                    clue = number(0, CLUES - 1);
                    break;
                case NEXT:
                    begin(next);
                    sum();
                    break;
                case STOPS:
                    begin(stops);
                    truth();
                    break;
                default:
                    fail(MISPLACED);
            }
        }

        private void tell(int[] numbers) {
            int d = number(0, drawers - 1);
            int told = number(0, drawers - 1);
            if (d < numbers.length) {
                numbers[d] = told;
            }
        }

        private void begin(Draft law) {
            law.clear();
            draft = law;
            advance();
            expect(':');
        }

        private void sum() {
            term();
            for (int i = 0; i < TAPE_SIZE && (token == '+' || token == '-'); i++) {
                int step = token == '+' ? Law.PLUS : Law.MINUS;
                advance();
                term();
                draft.add(step);
            }
        }

        private void term() {
            atom();
            for (int i = 0; i < TAPE_SIZE && token == '*'; i++) {
                advance();
                atom();
                draft.add(Law.TIMES);
            }
        }

        private void atom() {
            switch (token) {
                case NUMBER:
                    leaf(value);
                    break;
                case ME:
                    leaf(Law.ME);
                    break;
                case FOUND:
                    leaf(Law.FOUND);
                    break;
                case LAST:
                    leaf(Law.LAST);
                    break;
                case TRIES:
                    leaf(Law.TRIES);
                    break;
                case CLUE:
                    leaf(Law.CLUE);
                    break;
                case '(':
                    enter();
                    sum();
                    expect(')');
                    depth--;
                    break;
                case IF:
                    choice();
                    break;
                default:
                    fail(MISPLACED);
            }
        }

        private void leaf(int step) {
            draft.add(step);
            advance();
        }

        private void choice() {
            enter();
            truth();
            expect(THEN);
            sum();
            expect(ELSE);
            sum();
            expect(END_IF);
            depth--;
            draft.add(Law.CHOOSE);
        }

        private void truth() {
            both();
            for (int i = 0; i < TAPE_SIZE && token == OR; i++) {
                advance();
                both();
                draft.add(Law.OR);
            }
        }

        private void both() {
            unit();
            for (int i = 0; i < TAPE_SIZE && token == AND; i++) {
                advance();
                unit();
                draft.add(Law.AND);
            }
        }

        private void unit() {
            if (token == NOT) {
                enter();
                unit();
                depth--;
                draft.add(Law.NOT);
            } else if (token == '[') {
                enter();
                truth();
                expect(']');
                depth--;
            } else {
                comparison();
            }
        }

        private void comparison() {
            sum();
            int step = stepOfSign();
            if (step == 0) {
                fail(MISPLACED);
                return;
            }
            advance();
            sum();
            draft.add(step);
        }

        private int stepOfSign() {
            switch (token) {
                case '=':
                    return Law.EQUAL;
                case '<':
                    return Law.LESS;
                case '>':
                    return Law.MORE;
                default:
                    return 0;
            }
        }

        /** A seventh within one another is stuck here, so that no rule goes deeper. */
        private void enter() {
            depth++;
            if (depth > DEEPEST) {
                fail(TOO_DEEP);
            }
            advance();
        }

        private void expect(int wanted) {
            if (token == wanted) {
                advance();
            } else {
                fail(MISPLACED);
            }
        }

        private int number(int least, int most) {
            if (token != NUMBER) {
                fail(MISPLACED);
                return least;
            }
            int told = value;
            if (told < least || told > most) {
                fail(OUT_OF_BOUNDS);
                return least;
            }
            advance();
            return told;
        }

        private void fail(int kind) {
            if (fault == 0) {
                fault = kind;
                place = start;
                token = STUCK;
            }
        }

        private void advance() {
            if (fault != 0 || text == null) {
                return;
            }
            while (head < length && (text[head] == ' ' || text[head] == '\n')) {
                head++;
            }
            start = head;
            if (head >= length) {
                token = END;
                return;
            }
            int sign = text[head] & 255;
            if (isLetter(sign)) {
                while (head < length && isLetter(text[head])) {
                    head++;
                }
                token = wordBetween(start, head);
            } else if (isDigit(sign)) {
                readNumber();
            } else if (SIGNS.indexOf((char) sign) >= 0) {
                token = sign;
                head++;
            } else {
                fail(NO_TOKEN);
            }
        }

        private static boolean isLetter(int sign) {
            return sign >= 'a' && sign <= 'z';
        }

        private static boolean isDigit(int sign) {
            return sign >= '0' && sign <= '9';
        }

        private void readNumber() {
            value = 0;
            while (head < length && isDigit(text[head])) {
                if (head - start < 3) {
                    value = value * 10 + text[head] - '0';
                }
                head++;
            }
            token = NUMBER;
            if (head - start > 3) {
                fail(NO_TOKEN);
            }
        }

        private int wordBetween(int from, int to) {
            int word = DESK;
            int at = from;
            boolean same = true;
            for (int i = 0; i < WORDS.length(); i++) {
                char sign = WORDS.charAt(i);
                if (sign != ' ') {
                    same = same && at < to && text[at] == sign;
                    at++;
                } else if (same && at == to) {
                    return word;
                } else {
                    word++;
                    at = from;
                    same = true;
                }
            }
            return OTHER_WORD;
        }
    }

    /** All rows of names there can be, by their numbers. */
    private static final class Rows {
        private static final int[] FACTORIALS = {1, 1, 2, 6, 24, 120, 720};

        private int drawers = 0;
        private int count = 0;
        private int pairs = 0;
        private boolean swapsStand = false;
        private byte[] names = new byte[1];
        private int[] swapped = new int[1];
        private final int[] codes = new int[MOST_PAIRS];
        private final int[] made = new int[MOST_DRAWERS];

        private void hold(int n) {
            if (n == drawers || n < 1 || n > MOST_DRAWERS) {
                return;
            }
            drawers = n;
            count = FACTORIALS[n];
            pairs = n * (n - 1) / 2;
            swapsStand = false;
            if (names.length < count * n) {
                names = new byte[count * n];
            }
            for (int row = 0; row < count; row++) {
                fillRow(row);
            }
        }

        private void fillRow(int row) {
            int rest = row;
            int used = 0;
            for (int d = 0; d < drawers; d++) {
                int block = FACTORIALS[drawers - 1 - d];
                int name = unusedName(used, rest / block);
                rest %= block;
                used |= 1 << name;
                names[row * drawers + d] = (byte) name;
            }
        }

        private int unusedName(int used, int rank) {
            int left = rank;
            for (int name = 0; name < drawers; name++) {
                if ((used >> name & 1) == 0) {
                    if (left == 0) {
                        return name;
                    }
                    left--;
                }
            }
            return 0;
        }

        private int nameIn(int row, int d) {
            int i = row * drawers + d;
            return i >= 0 && i < names.length ? names[i] : 0;
        }

        private static int numberOf(int[] row, int n) {
            int number = 0;
            for (int d = 0; d < n && d < row.length; d++) {
                int lesser = 0;
                for (int e = d + 1; e < n && e < row.length; e++) {
                    if (row[e] < row[d]) {
                        lesser++;
                    }
                }
                number = number * (n - d) + lesser;
            }
            return number;
        }

        private int swappedRow(int row, int d, int e) {
            for (int i = 0; i < drawers; i++) {
                made[i] = nameIn(row, i == d ? e : i == e ? d : i);
            }
            return numberOf(made, drawers);
        }

        /** Each name goes into the drawer that the other row tells for the one where it lies. */
        private int movedRow(int row, int goes) {
            for (int d = 0; d < drawers; d++) {
                int to = nameIn(goes, d);
                if (to >= 0 && to < made.length) {
                    made[to] = nameIn(row, d);
                }
            }
            return numberOf(made, drawers);
        }

        private int powerOf(int row, long k) {
            for (int d = 0; d < drawers; d++) {
                int length = Math.max(1, Integer.bitCount(roundBits(row, d)));
                made[d] = nameBehind(row, d, (int) (k % length));
            }
            return numberOf(made, drawers);
        }

        private int nameBehind(int row, int d, int steps) {
            int to = d;
            for (int i = 0; i < steps; i++) {
                to = nameIn(row, to);
            }
            return to;
        }

        /** Most rows fail at once, so this is far less work than all their powers. */
        private boolean isRoot(int row, int k, int power) {
            for (int d = 0; d < drawers; d++) {
                if (nameBehind(row, d, k) != nameIn(power, d)) {
                    return false;
                }
            }
            return true;
        }

        private int roundBits(int row, int d) {
            int bits = 0;
            int to = d;
            for (int i = 0; i < drawers; i++) {
                bits |= 1 << to;
                to = nameIn(row, to);
            }
            return bits;
        }

        private int roundsOf(int row) {
            int rounds = 0;
            for (int d = 0; d < drawers; d++) {
                if (Integer.numberOfTrailingZeros(roundBits(row, d)) == d) {
                    rounds++;
                }
            }
            return rounds;
        }

        private int longestOf(int row) {
            int longest = 0;
            for (int d = 0; d < drawers; d++) {
                longest = Math.max(longest, Integer.bitCount(roundBits(row, d)));
            }
            return longest;
        }

        private int fixedOf(int row) {
            int fixed = 0;
            for (int d = 0; d < drawers; d++) {
                if (nameIn(row, d) == d) {
                    fixed++;
                }
            }
            return fixed;
        }

        /** No row of six names needs a power above six. */
        private int orderOf(int row) {
            for (int k = 1; k < MOST_DRAWERS; k++) {
                if (powerOf(row, k) == 0) {
                    return k;
                }
            }
            return MOST_DRAWERS;
        }

        private int inversionsOf(int row) {
            int inversions = 0;
            for (int d = 0; d < drawers; d++) {
                for (int e = d + 1; e < drawers; e++) {
                    if (nameIn(row, d) > nameIn(row, e)) {
                        inversions++;
                    }
                }
            }
            return inversions;
        }

        /** Swaps are numbered by their codes: the first is 1, drawers 0 and 1. */
        private void prepareSwaps() {
            if (swapsStand) {
                return;
            }
            if (swapped.length < count * pairs) {
                swapped = new int[count * pairs];
            }
            int pair = 0;
            for (int d = 0; d < drawers; d++) {
                for (int e = d + 1; e < drawers && pair < MOST_PAIRS; e++) {
                    codes[pair] = 10 * d + e;
                    fillSwapped(pair, d, e);
                    pair++;
                }
            }
            swapsStand = true;
        }

        private void fillSwapped(int pair, int d, int e) {
            for (int row = 0; row < count; row++) {
                swapped[row * pairs + pair] = swappedRow(row, d, e);
            }
        }

        private int bySwap(int row, int pair) {
            int i = row * pairs + pair;
            return i >= 0 && i < swapped.length ? swapped[i] : row;
        }

        private int codeOf(int pair) {
            return pair >= 0 && pair < pairs ? codes[pair] : NONE;
        }
    }

    /** Visits at one desk; what the laws told and who was let off is kept, clue by clue. */
    private static final class Visits {
        private static final int STOPS = 1;
        private static final int OPENS = 2;

        private final Rows all;
        private Desk table = null;
        private byte[] moves = new byte[1];
        private byte[] masks = new byte[1];
        private int movesOfClue = 0;
        private final boolean[] kept = new boolean[CLUES];
        private final int[] facts = new int[Law.FACTS];
        private final int[] path = new int[MOST_OPENS];
        private int length = 0;
        private boolean free = false;

        private Visits(Rows all) {
            this.all = all;
        }

        private void sitAt(Desk other) {
            table = other;
            movesOfClue = other.drawers * other.drawers * other.drawers * other.opens;
            for (int i = 0; i < kept.length; i++) {
                kept[i] = false;
            }
            if (moves.length < CLUES * movesOfClue) {
                moves = new byte[CLUES * movesOfClue];
            }
            if (masks.length < CLUES * all.count) {
                masks = new byte[CLUES * all.count];
            }
        }

        /** What is kept of another desk is struck only for the clues that are used. */
        private void prepare(int clue) {
            if (clue < 0 || clue >= kept.length || kept[clue]) {
                return;
            }
            for (int i = clue * movesOfClue; i < (clue + 1) * movesOfClue && i < moves.length; i++) {
                moves[i] = 0;
            }
            for (int i = clue * all.count; i < (clue + 1) * all.count && i < masks.length; i++) {
                masks[i] = 0;
            }
            kept[clue] = true;
        }

        /** Who is let off, as bits, if it is as an aim tells. */
        private int goalOf(int aim) {
            return aim == 0 ? (1 << all.drawers) - 1 : 0;
        }

        private int maskOf(int row, int clue) {
            prepare(clue);
            int i = clue * all.count + row;
            if (i < 0 || i >= masks.length) {
                return 0;
            }
            if (masks[i] == 0) {
                int bits = 0;
                for (int p = 0; p < all.drawers; p++) {
                    go(p, row, clue);
                    bits |= free ? 1 << p : 0;
                }
                masks[i] = (byte) (1 + bits);
            }
            return masks[i] - 1;
        }

        private void go(int p, int row, int clue) {
            prepare(clue);
            length = 0;
            free = false;
            facts[0] = p;
            facts[1] = p;
            facts[2] = p;
            facts[4] = clue;
            for (int tries = 0; tries < table.opens && tries < path.length && !free; tries++) {
                facts[3] = tries;
                int move = nextMove();
                if (move < OPENS) {
                    return;
                }
                facts[2] = move - OPENS;
                facts[1] = all.nameIn(row, facts[2]);
                path[tries] = facts[2];
                length = tries + 1;
                free = facts[1] == p;
            }
        }

        private int openedAt(int i) {
            return i >= 0 && i < path.length ? path[i] : 0;
        }

        private int nextMove() {
            int n = all.drawers;
            int i = (((facts[4] * n + facts[0]) * n + facts[1]) * n + facts[2]) * table.opens + facts[3];
            if (i < 0 || i >= moves.length) {
                return STOPS;
            }
            if (moves[i] == 0) {
                boolean stops = table.stops != null && table.stops.tell(facts) != 0;
                int told = table.next == null ? facts[1] : table.next.tell(facts);
                moves[i] = (byte) (stops ? STOPS : OPENS + Math.floorMod(told, Math.max(1, n)));
            }
            return moves[i];
        }
    }

    /** How far each row is from an aim, by swaps. */
    private static final class Ways {
        private final Rows all;
        private final Visits visits;
        private int[] steps = new int[1];
        private int[] queue = new int[1];
        private int queued = 0;

        private Ways(Rows all, Visits visits) {
            this.all = all;
            this.visits = visits;
        }

        private void measure(int aim, int clue) {
            all.prepareSwaps();
            if (steps.length < all.count) {
                steps = new int[all.count];
                queue = new int[all.count];
            }
            queued = 0;
            int goal = visits.goalOf(aim);
            for (int row = 0; row < all.count; row++) {
                steps[row] = NONE;
                if (visits.maskOf(row, clue) == goal) {
                    reach(row, 0);
                }
            }
            for (int i = 0; i < queued && i < queue.length; i++) {
                reachNeighbours(queue[i]);
            }
        }

        private void reachNeighbours(int row) {
            int further = stepsFrom(row) + 1;
            for (int pair = 0; pair < all.pairs; pair++) {
                int other = all.bySwap(row, pair);
                if (stepsFrom(other) == NONE) {
                    reach(other, further);
                }
            }
        }

        private void reach(int row, int far) {
            if (row >= 0 && row < steps.length && queued < queue.length) {
                steps[row] = far;
                queue[queued] = row;
                queued++;
            }
        }

        private int stepsFrom(int row) {
            return row >= 0 && row < steps.length ? steps[row] : NONE;
        }

        /** The first swap that comes nearer; NONE if there is none. */
        private int pairFrom(int row) {
            for (int pair = 0; pair < all.pairs; pair++) {
                if (stepsFrom(all.bySwap(row, pair)) == stepsFrom(row) - 1) {
                    return pair;
                }
            }
            return NONE;
        }
    }

    /** In how many ways one comes to each row, swap by swap or lot by lot. */
    private static final class Spread {
        private final Rows all;
        private long[] weights = new long[1];
        private long[] later = new long[1];

        private Spread(Rows all) {
            this.all = all;
        }

        private void begin(int row) {
            all.prepareSwaps();
            if (weights.length < all.count) {
                weights = new long[all.count];
                later = new long[all.count];
            }
            Arrays.fill(weights, 0L);
            if (row >= 0 && row < weights.length) {
                weights[row] = 1;
            }
        }

        private long weightAt(int row) {
            return row >= 0 && row < weights.length ? weights[row] : 0;
        }

        private void bySwaps() {
            Arrays.fill(later, 0L);
            for (int row = 0; row < all.count; row++) {
                long weight = weightAt(row);
                for (int pair = 0; pair < all.pairs && weight != 0; pair++) {
                    addLater(all.bySwap(row, pair), weight);
                }
            }
            goOn();
        }

        private void byLots() {
            Arrays.fill(later, 0L);
            for (int row = 0; row < all.count; row++) {
                if (weightAt(row) != 0) {
                    addLots(row);
                }
            }
            goOn();
        }

        private void addLots(int row) {
            addLater(row, weightAt(row) * (LOTS - all.drawers + 1));
            for (int pair = 0; pair < all.pairs; pair++) {
                if (isOfNeighbours(all.codeOf(pair))) {
                    addLater(all.bySwap(row, pair), weightAt(row));
                }
            }
        }

        private static boolean isOfNeighbours(int code) {
            return code / 10 + 1 == code % 10;
        }

        private void addLater(int row, long weight) {
            if (row >= 0 && row < later.length) {
                later[row] += weight;
            }
        }

        private void goOn() {
            long[] free = weights;
            weights = later;
            later = free;
        }
    }
}
