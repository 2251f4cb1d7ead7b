import java.util.ArrayList;
import java.util.Arrays;
import java.util.HashMap;
import java.util.List;
import java.util.Map;

/**
 * The document told a second time, as plainly as can be and with none of the class's short cuts:
 * rows are lists of names, laws are walked as trees, all questions are answered by trying.
 */
final class Model {
    static final int NONE = -1;

    /** A fault of a text; it ends the reading. */
    private static final class Fault extends RuntimeException {
        private static final long serialVersionUID = 1L;
        final int kind;
        final int place;

        Fault(int kind, int place) {
            this.kind = kind;
            this.place = place;
        }
    }

    private static final class Node {
        final String kind;
        final int value;
        final Node[] parts;

        Node(String kind, int value, Node... parts) {
            this.kind = kind;
            this.value = value;
            this.parts = parts;
        }
    }

    private static final class Desk {
        int drawers = 1;
        int opens = 1;
        int clue = 0;
        int lines = 0;
        int[] names = {0};
        int[] goes = {0};
        Node next = null;
        Node stops = null;
    }

    private static final class State {
        final List<Integer> row;
        final int clue;
        final int nights;

        State(List<Integer> row, int clue, int nights) {
            this.row = row;
            this.clue = clue;
            this.nights = nights;
        }
    }

    private String tape = "";
    private int fault = 0;
    private int place = NONE;
    private Desk desk = new Desk();
    private State state = new State(List.of(0), 0, 0);
    private final List<State> past = new ArrayList<>();
    private final long[][] trays = new long[4][];
    private final int[] sorts = new int[4];
    private final Desk[] imageDesks = new Desk[2];
    private final State[] imageStates = new State[2];
    private final Map<Integer, List<List<Integer>>> allRows = new HashMap<>();
    private final Map<List<Object>, List<Integer>> trodden = new HashMap<>();

    // ---- reading

    private String text;
    private int head;
    private String token;
    private int start;
    private int depth;

    private void next() {
        while (head < text.length() && (text.charAt(head) == 10 || text.charAt(head) == 32)) {
            head++;
        }
        start = head;
        if (head == text.length()) {
            token = "";
            return;
        }
        String rest = text.substring(head);
        String run = rest.replaceAll("(?s)^([a-z]+|[0-9]+|.).*$", "$1");
        if (!run.matches("[a-z]+|[0-9]{1,3}|[;:+*()\\[\\]=<>-]")) {
            throw new Fault(1, start);
        }
        token = run;
        head += run.length();
    }

    private void want(String wanted) {
        if (!token.equals(wanted)) {
            throw new Fault(2, start);
        }
        next();
    }

    private int wantNumber(int least, int most) {
        if (!token.matches("[0-9]+")) {
            throw new Fault(2, start);
        }
        int v = Integer.parseInt(token);
        if (v < least || v > most) {
            throw new Fault(3, start);
        }
        next();
        return v;
    }

    private Desk readText(String told) {
        text = told;
        head = 0;
        depth = 0;
        Desk d = new Desk();
        next();
        want("desk");
        want("drawers");
        d.drawers = wantNumber(1, 6);
        want("opens");
        d.opens = wantNumber(1, 9);
        want(";");
        d.lines = 1;
        d.names = new int[d.drawers];
        d.goes = new int[d.drawers];
        for (int i = 0; i < d.drawers; i++) {
            d.names[i] = i;
            d.goes[i] = i;
        }
        while (!token.isEmpty()) {
            readLine(d);
            want(";");
            d.lines++;
        }
        for (int i = 0; i < d.drawers; i++) {
            int name = i;
            if (Arrays.stream(d.names).noneMatch(v -> v == name) || Arrays.stream(d.goes).noneMatch(v -> v == name)) {
                throw new Fault(3, text.length());
            }
        }
        return d;
    }

    private void readLine(Desk d) {
        String word = token;
        if (!List.of("name", "night", "clue", "next", "stops").contains(word)) {
            throw new Fault(2, start);
        }
        next();
        if (word.equals("clue")) {
            d.clue = wantNumber(0, 9);
        } else if (word.equals("next")) {
            want(":");
            d.next = readSum();
        } else if (word.equals("stops")) {
            want(":");
            d.stops = readTruth();
        } else {
            int which = wantNumber(0, d.drawers - 1);
            int what = wantNumber(0, d.drawers - 1);
            (word.equals("name") ? d.names : d.goes)[which] = what;
        }
    }

    private void deeper() {
        if (depth == 6) {
            throw new Fault(4, start);
        }
        depth++;
        next();
    }

    private Node readSum() {
        Node left = readTerm();
        while (token.equals("+") || token.equals("-")) {
            String sign = token;
            next();
            left = new Node(sign, 0, left, readTerm());
        }
        return left;
    }

    private Node readTerm() {
        Node left = readAtom();
        while (token.equals("*")) {
            next();
            left = new Node("*", 0, left, readAtom());
        }
        return left;
    }

    private Node readAtom() {
        if (token.matches("[0-9]+")) {
            return new Node("n", wantNumber(0, 999));
        }
        if (List.of("me", "found", "last", "tries", "clue").contains(token)) {
            Node leaf = new Node(token, 0);
            next();
            return leaf;
        }
        if (token.equals("(")) {
            deeper();
            Node inner = readSum();
            want(")");
            depth--;
            return inner;
        }
        if (token.equals("if")) {
            deeper();
            Node truth = readTruth();
            want("then");
            Node one = readSum();
            want("else");
            Node other = readSum();
            want("end");
            depth--;
            return new Node("if", 0, truth, one, other);
        }
        throw new Fault(2, start);
    }

    private Node readTruth() {
        Node left = readBoth();
        while (token.equals("or")) {
            next();
            left = new Node("or", 0, left, readBoth());
        }
        return left;
    }

    private Node readBoth() {
        Node left = readUnit();
        while (token.equals("and")) {
            next();
            left = new Node("and", 0, left, readUnit());
        }
        return left;
    }

    private Node readUnit() {
        if (token.equals("not")) {
            deeper();
            Node inner = readUnit();
            depth--;
            return new Node("not", 0, inner);
        }
        if (token.equals("[")) {
            deeper();
            Node inner = readTruth();
            want("]");
            depth--;
            return inner;
        }
        Node left = readSum();
        String sign = token;
        if (!List.of("=", "<", ">").contains(sign)) {
            throw new Fault(2, start);
        }
        next();
        return new Node(sign, 0, left, readSum());
    }

    private static long tell(Node n, Map<String, Integer> facts) {
        switch (n.kind) {
            case "n":
                return n.value;
            case "+":
                return kept(tell(n.parts[0], facts) + tell(n.parts[1], facts));
            case "-":
                return kept(tell(n.parts[0], facts) - tell(n.parts[1], facts));
            case "*":
                return kept(tell(n.parts[0], facts) * tell(n.parts[1], facts));
            case "if":
                return holds(n.parts[0], facts) ? tell(n.parts[1], facts) : tell(n.parts[2], facts);
            default:
                return facts.get(n.kind);
        }
    }

    private static long kept(long v) {
        return v < -1000000 ? -1000000 : v > 1000000 ? 1000000 : v;
    }

    private static boolean holds(Node n, Map<String, Integer> facts) {
        switch (n.kind) {
            case "or":
                return holds(n.parts[0], facts) || holds(n.parts[1], facts);
            case "and":
                return holds(n.parts[0], facts) && holds(n.parts[1], facts);
            case "not":
                return !holds(n.parts[0], facts);
            case "=":
                return tell(n.parts[0], facts) == tell(n.parts[1], facts);
            case "<":
                return tell(n.parts[0], facts) < tell(n.parts[1], facts);
            default:
                return tell(n.parts[0], facts) > tell(n.parts[1], facts);
        }
    }

    // ---- rows and visits

    private List<List<Integer>> every() {
        return allRows.computeIfAbsent(desk.drawers, n -> {
            List<List<Integer>> rows = new ArrayList<>();
            grow(new ArrayList<>(), n, rows);
            return rows;
        });
    }

    private static void grow(List<Integer> begun, int n, List<List<Integer>> rows) {
        if (begun.size() == n) {
            rows.add(List.copyOf(begun));
            return;
        }
        for (int name = 0; name < n; name++) {
            if (!begun.contains(name)) {
                begun.add(name);
                grow(begun, n, rows);
                begun.remove(begun.size() - 1);
            }
        }
    }

    private int numberOf(List<Integer> row) {
        return every().indexOf(row);
    }

    /** The drawers that one opens, in their order. */
    private List<Integer> path(int p, List<Integer> row, int clue) {
        return trodden.computeIfAbsent(List.of(p, row, clue), key -> walk(p, row, clue));
    }

    private List<Integer> walk(int p, List<Integer> row, int clue) {
        List<Integer> path = new ArrayList<>();
        int found = p;
        int last = p;
        while (path.size() < desk.opens) {
            Map<String, Integer> facts = new HashMap<>();
            facts.put("me", p);
            facts.put("found", found);
            facts.put("last", last);
            facts.put("tries", path.size());
            facts.put("clue", clue);
            if (desk.stops != null && holds(desk.stops, facts)) {
                break;
            }
            long told = desk.next == null ? found : tell(desk.next, facts);
            last = (int) (((told % desk.drawers) + desk.drawers) % desk.drawers);
            found = row.get(last);
            path.add(last);
            if (found == p) {
                break;
            }
        }
        return path;
    }

    private int bits(List<Integer> row, int clue) {
        int bits = 0;
        for (int p = 0; p < desk.drawers; p++) {
            List<Integer> path = path(p, row, clue);
            if (!path.isEmpty() && row.get(path.get(path.size() - 1)) == p) {
                bits |= 1 << p;
            }
        }
        return bits;
    }

    private boolean isAs(int aim, List<Integer> row) {
        return bits(row, state.clue) == (aim == 0 ? (1 << desk.drawers) - 1 : 0);
    }

    private static List<Integer> swapped(List<Integer> row, int d, int e) {
        List<Integer> other = new ArrayList<>(row);
        other.set(d, row.get(e));
        other.set(e, row.get(d));
        return other;
    }

    private List<Integer> night(List<Integer> row) {
        List<Integer> other = new ArrayList<>(row);
        for (int d = 0; d < row.size(); d++) {
            other.set(desk.goes[d], row.get(d));
        }
        return other;
    }

    /** Any row of six comes round behind 60, so no more nights need be gone through. */
    private List<Integer> nights(List<Integer> row, long n) {
        List<Integer> other = row;
        for (long i = 0; i < n % 60; i++) {
            other = night(other);
        }
        return other;
    }

    // ---- the face

    int feed(int a, int b, int c, int d, int e) {
        if (tape.length() > 880) {
            return -5;
        }
        for (int v : new int[] {a, b, c, d, e}) {
            tape += "" + (char) (v >>> 24) + (char) (v >>> 16 & 255) + (char) (v >>> 8 & 255) + (char) (v & 255);
        }
        return tape.length();
    }

    int desk(int n) {
        if (n < 0 || n > tape.length()) {
            return -3;
        }
        String told = tape.substring(0, n);
        tape = "";
        try {
            desk = readText(told);
        } catch (Fault f) {
            fault = f.kind;
            place = f.place;
            return -30 - fault;
        }
        fault = 0;
        place = NONE;
        trodden.clear();
        past.clear();
        List<Integer> row = new ArrayList<>();
        for (int name : desk.names) {
            row.add(name);
        }
        state = new State(row, desk.clue, 0);
        return desk.lines;
    }

    int fault(int what) {
        return what == 0 ? fault : what == 1 ? place : NONE;
    }

    private boolean isDrawer(int d) {
        return d >= 0 && d < desk.drawers;
    }

    int drawer(int d, int what) {
        if (!isDrawer(d) || what < 0 || what > 1) {
            return -2;
        }
        return what == 0 ? state.row.get(d) : desk.goes[d];
    }

    int visit(int p, int what) {
        if (!isDrawer(p) || what < 0 || what > 1) {
            return -2;
        }
        return what == 0 ? letOff() >> p & 1 : path(p, state.row, state.clue).size();
    }

    int opened(int p, int i) {
        if (!isDrawer(p)) {
            return -2;
        }
        if (i < 0) {
            return -3;
        }
        List<Integer> path = path(p, state.row, state.clue);
        return i < path.size() ? path.get(i) : NONE;
    }

    int letOff() {
        return bits(state.row, state.clue);
    }

    private void become(State other) {
        past.add(state);
        if (past.size() > 10) {
            past.remove(0);
        }
        state = other;
    }

    /** The state behind a deed, or null if it can't be. */
    private State behind(State s, long v) {
        if (v == 0) {
            return new State(night(s.row), s.clue, s.nights + 1);
        }
        if (v >= 10 && v <= 19) {
            return new State(s.row, (int) v - 10, s.nights);
        }
        if (v < 100 || v > 199) {
            return null;
        }
        int d = (int) (v - 100) / 10;
        int e = (int) (v % 10);
        if (!isDrawer(d) || !isDrawer(e) || d == e) {
            return null;
        }
        return new State(swapped(s.row, d, e), s.clue, s.nights);
    }

    int swap(int d, int e) {
        if (!isDrawer(d) || !isDrawer(e) || d == e) {
            return -11;
        }
        become(behind(state, 100 + 10 * d + e));
        return count(4);
    }

    int nights(int n) {
        if (n < 1 || n > 99) {
            return -3;
        }
        State s = state;
        for (int i = 0; i < n; i++) {
            s = behind(s, 0);
        }
        become(s);
        return count(4);
    }

    int clue(int n) {
        if (n < 0 || n > 9) {
            return -11;
        }
        int was = state.clue;
        become(behind(state, 10 + n));
        return was;
    }

    int undo(int n) {
        if (n < 1 || n > past.size()) {
            return -3;
        }
        for (int i = 0; i < n; i++) {
            state = past.remove(past.size() - 1);
        }
        return past.size();
    }

    private static boolean isTray(int t) {
        return t >= 0 && t < 4;
    }

    int judge(int tray, int what) {
        if (!isTray(tray) || what < 0 || what > 3) {
            return -2;
        }
        if (trays[tray] == null) {
            return -6;
        }
        State s = state;
        int stuck = NONE;
        for (int i = 0; i < trays[tray].length && stuck == NONE; i++) {
            State later = behind(s, trays[tray][i]);
            if (later == null) {
                stuck = i;
            } else {
                s = later;
            }
        }
        switch (what) {
            case 0:
                return stuck;
            case 1:
                return stuck == NONE ? 0 : 1;
            case 2:
                return numberOf(s.row);
            default:
                return bits(s.row, s.clue);
        }
    }

    int perform(int tray) {
        if (!isTray(tray)) {
            return -2;
        }
        if (trays[tray] == null) {
            return -6;
        }
        int done = judge(tray, 0) == NONE ? trays[tray].length : judge(tray, 0);
        State s = state;
        for (int i = 0; i < done; i++) {
            s = behind(s, trays[tray][i]);
        }
        if (done > 0) {
            become(s);
        }
        return done;
    }

    private int x;

    private int draw() {
        x = x * 1103515245 + 12345;
        return x >>> 16;
    }

    int year(int seed, int times) {
        if (times < 1 || times > 40) {
            return -3;
        }
        x = seed;
        State s = state;
        int done = 0;
        for (int i = 0; i < times; i++) {
            int kind = draw() % 4;
            State later;
            if (kind < 2) {
                later = behind(s, 0);
            } else if (kind == 2) {
                later = behind(s, 10 + draw() % 10);
            } else {
                int d = draw() % 6;
                later = behind(s, 100 + 10 * d + draw() % 6);
            }
            if (later != null) {
                s = later;
                done++;
            }
        }
        if (done > 0) {
            become(s);
        }
        return done;
    }

    private List<Integer> round(int d) {
        List<Integer> round = new ArrayList<>();
        for (int at = d; !round.contains(at); at = state.row.get(at)) {
            round.add(at);
        }
        return round;
    }

    int lies(int what) {
        int n = desk.drawers;
        int rounds = 0;
        int longest = 0;
        int own = 0;
        int greater = 0;
        for (int d = 0; d < n; d++) {
            rounds += round(d).stream().min(Integer::compare).get() == d ? 1 : 0;
            longest = Math.max(longest, round(d).size());
            own += state.row.get(d) == d ? 1 : 0;
            for (int e = d + 1; e < n; e++) {
                greater += state.row.get(d) > state.row.get(e) ? 1 : 0;
            }
        }
        int k = 1;
        while (power(k) != 0) {
            k++;
        }
        int[] answers = {numberOf(state.row), rounds, longest, own, k, greater};
        return what < 0 || what > 5 ? -2 : answers[what];
    }

    int round(int d, int what) {
        if (!isDrawer(d) || what < 0 || what > 1) {
            return -2;
        }
        return what == 0 ? round(d).size() : round(d).stream().mapToInt(v -> 1 << v).sum();
    }

    private List<Integer> power(List<Integer> row, long k) {
        List<Integer> names = new ArrayList<>();
        for (int d = 0; d < desk.drawers; d++) {
            int at = d;
            for (long i = 0; i < k % 60; i++) {
                at = row.get(at);
            }
            names.add(at);
        }
        return names;
    }

    int power(long k) {
        return k < 0 || k > 1000000000000000L ? -3 : numberOf(power(state.row, k));
    }

    int roots(int k) {
        if (k < 1 || k > 9) {
            return -3;
        }
        return (int) every().stream().filter(row -> power(row, k).equals(state.row)).count();
    }

    /** By the lengths of all rounds: n! by each length, and by how often it comes, in all orders. */
    long bounded(int n, int k) {
        if (n < 1 || n > 20 || k < 1 || k > 20) {
            return -3;
        }
        return split(n, k, 1);
    }

    private static long split(int left, int longest, long ways) {
        if (left == 0) {
            return ways;
        }
        if (longest == 0) {
            return 0;
        }
        long sum = split(left, longest - 1, ways);
        long with = ways;
        int rest = left;
        for (int times = 1; rest >= longest; times++) {
            with = with * choose(rest, longest) * factorial(longest - 1) / times;
            rest -= longest;
            sum += split(rest, longest - 1, with);
        }
        return sum;
    }

    private static long factorial(int n) {
        return n < 2 ? 1 : n * factorial(n - 1);
    }

    private static long choose(int n, int k) {
        return k == 0 ? 1 : choose(n, k - 1) * (n - k + 1) / k;
    }

    private static boolean isAim(int aim) {
        return aim == 0 || aim == 1;
    }

    /** The first row of just so many swaps that leads to the aim, or null. */
    private List<Integer> wayOf(int aim, List<Integer> row, int swaps) {
        if (swaps == 0) {
            return isAs(aim, row) ? new ArrayList<>() : null;
        }
        for (int d = 0; d < desk.drawers; d++) {
            for (int e = d + 1; e < desk.drawers; e++) {
                List<Integer> way = wayOf(aim, swapped(row, d, e), swaps - 1);
                if (way != null) {
                    way.add(0, 10 * d + e);
                    return way;
                }
            }
        }
        return null;
    }

    private List<Integer> wayOf(int aim) {
        if (every().stream().noneMatch(row -> isAs(aim, row))) {
            return null;
        }
        for (int swaps = 0;; swaps++) {
            List<Integer> way = wayOf(aim, state.row, swaps);
            if (way != null) {
                return way;
            }
        }
    }

    int fewest(int aim) {
        if (!isAim(aim)) {
            return -2;
        }
        List<Integer> way = wayOf(aim);
        return way == null ? NONE : way.size();
    }

    int way(int aim, int i) {
        if (!isAim(aim)) {
            return -2;
        }
        if (i < 0) {
            return -3;
        }
        List<Integer> way = wayOf(aim);
        return way == null || i >= way.size() ? NONE : way.get(i);
    }

    private static void add(Map<List<Integer>, Long> counts, List<Integer> row, long more) {
        counts.merge(row, more, Long::sum);
    }

    long rows(int aim, int n) {
        if (!isAim(aim)) {
            return -2;
        }
        if (n < 0 || n > 7) {
            return -3;
        }
        Map<List<Integer>, Long> counts = new HashMap<>();
        add(counts, state.row, 1);
        for (int i = 0; i < n; i++) {
            Map<List<Integer>, Long> later = new HashMap<>();
            for (Map.Entry<List<Integer>, Long> c : counts.entrySet()) {
                for (int d = 0; d < desk.drawers; d++) {
                    for (int e = d + 1; e < desk.drawers; e++) {
                        add(later, swapped(c.getKey(), d, e), c.getValue());
                    }
                }
            }
            counts = later;
        }
        return sum(aim, counts);
    }

    private long sum(int aim, Map<List<Integer>, Long> counts) {
        return counts.entrySet().stream().filter(c -> isAs(aim, c.getKey())).mapToLong(Map.Entry::getValue).sum();
    }

    int ofAll(int aim) {
        return !isAim(aim) ? -2 : (int) every().stream().filter(row -> isAs(aim, row)).count();
    }

    int ofOne(int p) {
        return !isDrawer(p) ? -2 : every().stream().mapToInt(row -> bits(row, state.clue) >> p & 1).sum();
    }

    int just(int n) {
        return n < 0 ? -3 : (int) every().stream().filter(row -> Integer.bitCount(bits(row, state.clue)) == n).count();
    }

    int at(long n) {
        return n < 0 || n > 1000000000000000L ? -3 : numberOf(nights(state.row, n));
    }

    int comesRound() {
        int n = 1;
        while (!nights(state.row, n).equals(state.row)) {
            n++;
        }
        return n;
    }

    int first(int aim) {
        if (!isAim(aim)) {
            return -2;
        }
        for (int n = 0; n < 60; n++) {
            if (isAs(aim, nights(state.row, n))) {
                return n;
            }
        }
        return NONE;
    }

    long often(int aim, long n) {
        if (!isAim(aim)) {
            return -2;
        }
        if (n < 0 || n > 1000000000000000L) {
            return -3;
        }
        long sum = 0;
        for (int i = 1; i <= 60; i++) {
            if (isAs(aim, nights(state.row, i))) {
                sum += n / 60 + (n % 60 >= i ? 1 : 0);
            }
        }
        return sum;
    }

    private int told(int tray, int p, int d) {
        if (!isTray(tray) || !isDrawer(p) || !isDrawer(d)) {
            return -2;
        }
        return toldNumbers(tray, -1, desk.drawers - 1);
    }

    private int toldNumbers(int tray, long least, long most) {
        if (trays[tray] == null) {
            return -6;
        }
        if (trays[tray].length < 1 || trays[tray].length > 8) {
            return -4;
        }
        return Arrays.stream(trays[tray]).anyMatch(v -> v < least || v > most) ? -3 : 0;
    }

    private List<List<Integer>> fitting(int tray, int p) {
        List<List<Integer>> rows = new ArrayList<>();
        for (List<Integer> row : every()) {
            List<Integer> path = path(p, row, state.clue);
            boolean fits = path.size() >= trays[tray].length;
            for (int i = 0; i < trays[tray].length && fits; i++) {
                fits = trays[tray][i] == NONE || trays[tray][i] == row.get(path.get(i));
            }
            if (fits) {
                rows.add(row);
            }
        }
        return rows;
    }

    int found(int tray, int p) {
        int refused = told(tray, p, 0);
        return refused != 0 ? refused : fitting(tray, p).size();
    }

    int names(int tray, int p, int d) {
        int refused = told(tray, p, d);
        if (refused != 0) {
            return refused;
        }
        int bits = 0;
        for (List<Integer> row : fitting(tray, p)) {
            bits |= 1 << row.get(d);
        }
        return bits;
    }

    int look(int tray, int p) {
        int refused = told(tray, p, 0);
        if (refused != 0) {
            return refused;
        }
        List<List<Integer>> rows = fitting(tray, p);
        if (rows.isEmpty()) {
            return NONE;
        }
        int best = NONE;
        long least = Long.MAX_VALUE;
        for (int d = 0; d < desk.drawers; d++) {
            long most = 0;
            for (int name = 0; name < desk.drawers; name++) {
                int drawer = d;
                int held = name;
                most = Math.max(most, rows.stream().filter(row -> row.get(drawer) == held).count());
            }
            if (most < least) {
                least = most;
                best = d;
            }
        }
        return best;
    }

    int clues(int tray) {
        if (!isTray(tray)) {
            return -2;
        }
        int refused = toldNumbers(tray, 0, (1 << desk.drawers) - 1);
        if (refused != 0) {
            return refused;
        }
        int bits = 0;
        for (int c = 0; c < 10; c++) {
            boolean so = true;
            for (int i = 0; i < trays[tray].length; i++) {
                so = so && bits(nights(state.row, i + 1), c) == trays[tray][i];
            }
            bits |= so ? 1 << c : 0;
        }
        return bits;
    }

    /** Whether the first one can force it with so many swaps left, by whose turn it is. */
    private boolean forced(int aim, List<Integer> row, int left, boolean firstOne, Map<List<Object>, Boolean> known) {
        if (isAs(aim, row)) {
            return true;
        }
        if (left == 0) {
            return false;
        }
        List<Object> key = List.of(row, left, firstOne);
        if (known.containsKey(key)) {
            return known.get(key);
        }
        boolean some = forced(aim, row, left - 1, !firstOne, known);
        boolean all = some;
        for (int d = 0; d < desk.drawers; d++) {
            for (int e = d + 1; e < desk.drawers; e++) {
                boolean so = forced(aim, swapped(row, d, e), left - 1, !firstOne, known);
                some |= so;
                all &= so;
            }
        }
        boolean answer = firstOne ? some : all;
        known.put(key, answer);
        return answer;
    }

    /** How many swaps are looked through ahead. */
    private static final int AHEAD = 5;

    int forces(int aim) {
        if (!isAim(aim)) {
            return -2;
        }
        Map<List<Object>, Boolean> known = new HashMap<>();
        for (int n = 0; n <= AHEAD; n++) {
            if (forced(aim, state.row, n, true, known)) {
                return n;
            }
        }
        return NONE;
    }

    int best(int aim) {
        int n = forces(aim);
        if (n < 0) {
            return n;
        }
        if (n == 0) {
            return NONE;
        }
        Map<List<Object>, Boolean> known = new HashMap<>();
        for (int d = 0; d < desk.drawers; d++) {
            for (int e = d + 1; e < desk.drawers; e++) {
                if (forced(aim, swapped(state.row, d, e), n - 1, false, known)) {
                    return 10 * d + e;
                }
            }
        }
        return 100;
    }

    private Map<List<Integer>, Long> lots(int n) {
        Map<List<Integer>, Long> counts = new HashMap<>();
        add(counts, state.row, 1);
        for (int i = 0; i < n; i++) {
            Map<List<Integer>, Long> later = new HashMap<>();
            for (Map.Entry<List<Integer>, Long> c : counts.entrySet()) {
                for (int v = 0; v < 10; v++) {
                    List<Integer> row = c.getKey();
                    add(later, isDrawer(v + 1) ? swapped(row, v, v + 1) : row, c.getValue());
                }
            }
            counts = later;
        }
        return counts;
    }

    private static int lowest(long above, int n, int what) {
        long below = 1;
        for (int i = 0; i < n; i++) {
            below *= 10;
        }
        long up = above;
        for (int prime : new int[] {2, 5}) {
            while (up % prime == 0 && below % prime == 0) {
                up /= prime;
                below /= prime;
            }
        }
        return (int) (what == 0 ? up : below);
    }

    int chance(int aim, int n, int what) {
        if (!isAim(aim) || what < 0 || what > 1) {
            return -2;
        }
        return n < 0 || n > 7 ? -3 : lowest(sum(aim, lots(n)), n, what);
    }

    int mean(int n, int what) {
        if (what < 0 || what > 1) {
            return -2;
        }
        if (n < 0 || n > 7) {
            return -3;
        }
        long sum = 0;
        for (Map.Entry<List<Integer>, Long> c : lots(n).entrySet()) {
            sum += c.getValue() * Integer.bitCount(bits(c.getKey(), state.clue));
        }
        return lowest(sum, n, what);
    }

    int numbers(int tray, int sort, int n) {
        if (!isTray(tray) || sort < 0 || sort > 3) {
            return -2;
        }
        if (n < 0 || n > 40) {
            return -3;
        }
        trays[tray] = new long[n];
        sorts[tray] = sort;
        return 0;
    }

    long write(int tray, int i, long v) {
        if (!isTray(tray)) {
            return -2;
        }
        if (trays[tray] == null) {
            return -6;
        }
        if (i < 0 || i >= trays[tray].length) {
            return -7;
        }
        int spare = 64 - (8 << sorts[tray]);
        trays[tray][i] = v << spare >> spare;
        return trays[tray][i];
    }

    int lists(int tray, int number) {
        if (!isTray(tray)) {
            return -2;
        }
        if (trays[tray] == null) {
            return -6;
        }
        if (number < 0 || number >= every().size()) {
            return -3;
        }
        int put = 0;
        while (put < trays[tray].length && put < desk.drawers) {
            trays[tray][put] = every().get(number).get(put);
            put++;
        }
        return put;
    }

    int image(int i) {
        if (i < 0 || i > 1) {
            return -2;
        }
        imageDesks[i] = desk;
        imageStates[i] = state;
        return 0;
    }

    int restore(int i) {
        if (i < 0 || i > 1) {
            return -2;
        }
        if (imageDesks[i] == null) {
            return -5;
        }
        desk = imageDesks[i];
        state = imageStates[i];
        trodden.clear();
        past.clear();
        return 0;
    }

    int count(int what) {
        int[] answers = {desk.drawers, desk.opens, state.clue, state.nights, Integer.bitCount(letOff()),
            past.size(), tape.length(), desk.lines, every().size()};
        return what < 0 || what > 8 ? NONE : answers[what];
    }
}
