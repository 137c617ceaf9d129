import java.math.BigInteger;
import java.util.ArrayDeque;
import java.util.ArrayList;
import java.util.Arrays;
import java.util.Deque;
import java.util.HashMap;
import java.util.List;
import java.util.Map;

/**
 * The document done the long way, as a second opinion: every question goes through all 4096
 * worlds, lost marks through all their subsets, undoing through copies of the whole state.
 * It shares no code with ProphetAudit.
 */
final class Model {
    private static final int BAD = -2, NO = -3, FULL = -4;

    /** An INSPECTOR, a SAYING, the MARK, TRIPS as they were. */
    private record Mark(int who, int day, int events, int mark, int trips) { }

    /** What UNDO brings back. */
    private record Before(List<Mark> marks, int[] known, List<Integer> trips) { }

    private static final class State {
        boolean[][] law = new boolean[4][4];
        int[] known = {-1, -1, -1, -1, -1, -1};
        List<Integer> kinds = new ArrayList<>();
        List<Integer> trips = new ArrayList<>();
        List<Mark> marks = new ArrayList<>();
        Deque<Before> undo = new ArrayDeque<>();

        State copy() {
            State c = new State();
            for (int a = 0; a < 4; a++) {
                c.law[a] = law[a].clone();
            }
            c.known = known.clone();
            c.kinds = new ArrayList<>(kinds);
            c.trips = new ArrayList<>(trips);
            c.marks = new ArrayList<>(marks);
            c.undo = new ArrayDeque<>(undo);
            return c;
        }

        void keepForUndo() {
            undo.addLast(new Before(new ArrayList<>(marks), known.clone(), new ArrayList<>(trips)));
            if (undo.size() > 8) {
                undo.removeFirst();
            }
        }

        void mark(int i, int d, int events, int m) {
            marks.add(new Mark(i, d, events, m, trips.get(i)));
            trips.set(i, trips.get(i) + 1);
        }
    }

    private State s = new State();
    private final State[] images = new State[2];
    private final StringBuilder text = new StringBuilder();
    private BigInteger above = BigInteger.ZERO;
    private BigInteger below = BigInteger.ONE;
    private final int[] refused = new int[3];

    private int bad() {
        refused[0]++;
        return BAD;
    }

    private int no() {
        refused[1]++;
        return NO;
    }

    private int full() {
        refused[2]++;
        return FULL;
    }

    private static boolean in(int x, int low, int high) {
        return low <= x && x <= high;
    }

    int office() {
        int n = s.kinds.size();
        s = new State();
        return n;
    }

    int never(int a, int b) {
        if (!in(a, 0, 3) || !in(b, 0, 3)) {
            return bad();
        }
        s.law[a][b] = true;
        s.undo.clear();
        return laws();
    }

    int one(int kind, int trips) {
        if (!in(kind, 0, 5) || !in(trips, 0, 9)) {
            return bad();
        }
        if (s.kinds.size() == 4) {
            return full();
        }
        s.kinds.add(kind);
        s.trips.add(trips);
        s.undo.clear();
        return s.kinds.size() - 1;
    }

    int type(int c) {
        if (!in(c, 0, 127)) {
            return bad();
        }
        if (text.length() == 150) {
            return full();
        }
        text.append((char) c);
        return text.length();
    }

    int clear() {
        int n = text.length();
        text.setLength(0);
        return n;
    }

    int read() {
        State told = new State();
        int[] items = new int[1];
        int fault = parse(told, items);
        if (fault >= 0) {
            return -10 - fault;
        }
        s = told;
        return items[0];
    }

    /** By whole items: their words and their numbers, each number with its range. */
    private int parse(State told, int[] items) {
        List<String> tokens = new ArrayList<>();
        List<Integer> places = new ArrayList<>();
        java.util.regex.Matcher m = java.util.regex.Pattern
                .compile("[a-z]+|[0-9]+|[^ ]", java.util.regex.Pattern.DOTALL).matcher(text);
        while (m.find()) {
            tokens.add(m.group());
            places.add(m.start());
        }
        tokens.add("");
        places.add(text.length());
        int at = 0;
        while (at == 0 || at < tokens.size() - 1) {
            String word = tokens.get(at);
            int[] limits = limits(word, told);
            boolean stands = at == 0 ? word.equals("office") : limits != null
                    && !word.equals("office")
                    && !(word.equals("one") && told.kinds.size() == 4)
                    && !(word.equals("mark") && told.marks.size() == 8);
            if (!stands) {
                return places.get(at);
            }
            List<Integer> numbers = new ArrayList<>();
            boolean open = true;
            while (open) {
                at++;
                String t = tokens.get(at);
                int n = numbers.size();
                int least = word.equals("mark") ? 4 : limits.length;
                if (t.equals(";") && n >= least) {
                    open = false;
                } else {
                    boolean fine = t.matches("[0-9]{1,2}") && n < limits.length
                            && Integer.parseInt(t) < limits[n];
                    if (fine && n > 3 && numbers.subList(3, n).contains(Integer.parseInt(t))) {
                        fine = false;
                    }
                    if (!fine) {
                        return places.get(at);
                    }
                    numbers.add(Integer.parseInt(t));
                }
            }
            put(told, word, numbers);
            items[0]++;
            at++;
        }
        return -1;
    }

    private static int[] limits(String word, State told) {
        switch (word) {
            case "office":
                return new int[0];
            case "never":
                return new int[] {4, 4};
            case "known":
                return new int[] {6, 4};
            case "one":
                return new int[] {6, 10};
            case "mark":
                return new int[] {told.kinds.size(), 6, 3, 4, 4, 4};
            default:
                return null;
        }
    }

    private static void put(State told, String word, List<Integer> n) {
        switch (word) {
            case "never":
                told.law[n.get(0)][n.get(1)] = true;
                break;
            case "known":
                told.known[n.get(0)] = n.get(1);
                break;
            case "one":
                told.kinds.add(n.get(0));
                told.trips.add(n.get(1));
                break;
            case "mark":
                int events = 0;
                for (int e : n.subList(3, n.size())) {
                    events += 1 << e;
                }
                told.mark(n.get(0), n.get(1), events, n.get(2));
                break;
            default:
                break;
        }
    }

    private boolean asked(int i, int d, int events, int m) {
        return in(i, 0, s.kinds.size() - 1) && in(d, 0, 5) && in(events, 1, 14) && in(m, 0, 2);
    }

    int mark(int i, int d, int events, int m) {
        if (!asked(i, d, events, m)) {
            return bad();
        }
        if (s.marks.size() == 8) {
            return full();
        }
        s.keepForUndo();
        s.mark(i, d, events, m);
        return s.marks.size();
    }

    int known(int d, int e) {
        if (!in(d, 0, 5) || !in(e, -1, 3)) {
            bad();
            return -10;
        }
        s.keepForUndo();
        int was = s.known[d];
        s.known[d] = e;
        return was;
    }

    int undo() {
        if (s.undo.isEmpty()) {
            return no();
        }
        Before b = s.undo.removeLast();
        s.marks = new ArrayList<>(b.marks());
        s.known = b.known().clone();
        s.trips = new ArrayList<>(b.trips());
        return s.marks.size();
    }

    int of(int i, int what) {
        if (!in(i, 0, s.kinds.size() - 1) || !in(what, 0, 1)) {
            return bad();
        }
        return what == 0 ? s.kinds.get(i) : s.trips.get(i);
    }

    // ---- worlds: an event of day d is (world >> 2 d) & 3

    private static int event(int world, int d) {
        return world >> 2 * d & 3;
    }

    private static int given(int kind, boolean is, int d, int n, int t) {
        int plain = is ? 1 : 0;
        int old = d == 1 || d == 3 || d == 5 ? 2 : plain;
        int coy = is ? 0 : 1;
        int[] all = {plain, d == 4 || d == 5 ? 1 : plain, old, coy, t > 2 ? 2 : old,
            n == 3 ? 1 : coy};
        return all[kind];
    }

    private static int given(int kind, int world, int d, int events, int t) {
        return given(kind, (events & 1 << event(world, d)) != 0, d, Integer.bitCount(events), t);
    }

    private boolean keeps(int world) {
        for (int d = 0; d < 6; d++) {
            if (s.known[d] != -1 && s.known[d] != event(world, d)) {
                return false;
            }
            if (d > 0 && s.law[event(world, d - 1)][event(world, d)]) {
                return false;
            }
        }
        return true;
    }

    private boolean fits(int world, List<Integer> kinds, int without) {
        for (int j = 0; j < s.marks.size(); j++) {
            Mark k = s.marks.get(j);
            if ((without >> j & 1) == 0
                    && given(kinds.get(k.who()), world, k.day(), k.events(), k.trips()) != k.mark()) {
                return false;
            }
        }
        return keeps(world);
    }

    private List<Integer> fitting(List<Integer> kinds, int without) {
        List<Integer> found = new ArrayList<>();
        for (int w = 0; w < 4096; w++) {
            if (fits(w, kinds, without)) {
                found.add(w);
            }
        }
        return found;
    }

    private List<Integer> fitting() {
        return fitting(s.kinds, 0);
    }

    int worlds() {
        return fitting().size();
    }

    private int having(int d, int e) {
        int n = 0;
        for (int w : fitting()) {
            n += event(w, d) == e ? 1 : 0;
        }
        return n;
    }

    private int mayOf(int d) {
        int bits = 0;
        for (int w : fitting()) {
            bits |= 1 << event(w, d);
        }
        return bits;
    }

    int may(int d) {
        return in(d, 0, 5) ? mayOf(d) : bad();
    }

    private void fraction(BigInteger up, BigInteger down) {
        BigInteger g = up.gcd(down);
        above = up.divide(g);
        below = down.divide(g);
    }

    int chance(int d, int e) {
        if (!in(d, 0, 5) || !in(e, 0, 3)) {
            return bad();
        }
        int all = fitting().size();
        if (all == 0) {
            return no();
        }
        fraction(BigInteger.valueOf(having(d, e)), BigInteger.valueOf(all));
        return 1;
    }

    int must() {
        int bits = 0;
        List<Integer> fit = fitting();
        for (int d = 0; d < 6; d++) {
            boolean same = true;
            for (int w : fit) {
                same &= event(w, d) == event(fit.get(0), d);
            }
            bits |= same ? 1 << d : 0;
        }
        return bits;
    }

    int ruled(int d) {
        if (!in(d, 0, 5)) {
            return bad();
        }
        int bits = 15;
        for (int w = 0; w < 4096; w++) {
            if (keeps(w)) {
                bits &= ~(1 << event(w, d));
            }
        }
        return bits;
    }

    private int[] byMark(int i, int d, int events) {
        int[] n = new int[3];
        for (int w : fitting()) {
            n[given(s.kinds.get(i), w, d, events, s.trips.get(i))]++;
        }
        return n;
    }

    int gives(int i, int d, int events, int m) {
        return asked(i, d, events, m) ? byMark(i, d, events)[m] : bad();
    }

    int next(int i) {
        if (!in(i, 0, s.kinds.size() - 1)) {
            return bad();
        }
        int best = -1;
        int fewest = Integer.MAX_VALUE;
        if (fitting().isEmpty()) {
            return -1;
        }
        for (int saying = 95; saying >= 0; saying--) {
            if (saying % 16 >= 1 && saying % 16 <= 14) {
                int most = Arrays.stream(byMark(i, saying / 16, saying % 16)).max().getAsInt();
                if (most <= fewest) {
                    fewest = most;
                    best = saying;
                }
            }
        }
        return best;
    }

    int sure(int i, int d, int what) {
        if (!in(i, 0, s.kinds.size() - 1) || !in(d, 0, 5) || !in(what, 0, 1)) {
            return bad();
        }
        int may = mayOf(d);
        if (may == 0) {
            return -1;
        }
        for (int n = 0; n <= 9; n++) {
            int first = first(s.kinds.get(i), d, may, s.trips.get(i), n, new HashMap<>());
            if (first >= 0) {
                return what == 0 ? n : first;
            }
        }
        return -1;
    }

    /** The first saying of n by which the events are told apart (0: none needed), or -1. */
    private static int first(int kind, int d, int may, int t, int n, Map<Integer, Integer> seen) {
        if (Integer.bitCount(may) <= 1) {
            return 0;
        }
        if (n == 0) {
            return -1;
        }
        int key = may * 100 + n;
        if (!seen.containsKey(key)) {
            int found = -1;
            for (int events = 1; events <= 14 && found < 0; events++) {
                int[] left = new int[3];
                for (int e = 0; e < 4; e++) {
                    if ((may >> e & 1) == 1) {
                        left[given(kind, e << 2 * d, d, events, t)] |= 1 << e;
                    }
                }
                boolean all = true;
                for (int m = 0; m < 3; m++) {
                    all = all && first(kind, d, left[m], t + 1, n - 1, seen) >= 0;
                }
                found = all ? events : -1;
            }
            seen.put(key, found);
        }
        return seen.get(key);
    }

    int wrong() {
        int best = -1;
        for (int without = 0; without < 1 << s.marks.size(); without++) {
            if ((best == -1 || Integer.bitCount(without) < Integer.bitCount(best))
                    && !fitting(s.kinds, without).isEmpty()) {
                best = without;
            }
        }
        return best;
    }

    int is(int i) {
        if (!in(i, 0, s.kinds.size() - 1)) {
            return bad();
        }
        int bits = 0;
        for (int k = 0; k < 6; k++) {
            List<Integer> kinds = new ArrayList<>(s.kinds);
            kinds.set(i, k);
            bits |= fitting(kinds, 0).isEmpty() ? 0 : 1 << k;
        }
        return bits;
    }

    int tells() {
        int bits = 0;
        for (int j = 0; j < s.marks.size(); j++) {
            bits |= fitting(s.kinds, 1 << j).size() > worlds() ? 1 << j : 0;
        }
        return bits;
    }

    int bets(int d, int k) {
        if (!in(d, 0, 5) || k < -1) {
            bad();
            return -10;
        }
        int[] n = new int[4];
        for (int w : fitting()) {
            n[event(w, d)]++;
        }
        List<Integer> rest = new ArrayList<>();
        for (int i = 0; i < 4; i++) {
            for (int j = 0; j < 4; j++) {
                int mine = i == j ? n[i] / 2 : n[i];
                int other = i == j ? n[j] / 2 : n[j];
                boolean stays = true;
                for (int x = 0; x < 4; x++) {
                    stays &= x == i || (x == j ? n[x] / 2 : n[x]) <= mine;
                    stays &= x == j || (x == i ? n[x] / 2 : n[x]) <= other;
                }
                if (stays) {
                    rest.add(4 * i + j);
                }
            }
        }
        return k == -1 ? rest.size() : k < rest.size() ? rest.get(k) : -5;
    }

    int journeys(int c) {
        if (!in(c, 0, 10)) {
            return bad();
        }
        BigInteger sum = BigInteger.ZERO;
        int n = s.marks.size();
        for (int lost = 0; lost < 1 << n; lost++) {
            int gone = Integer.bitCount(lost);
            sum = sum.add(BigInteger.valueOf(fitting(s.kinds, lost).size())
                    .multiply(BigInteger.valueOf(c).pow(gone))
                    .multiply(BigInteger.valueOf(10 - c).pow(n - gone)));
        }
        fraction(sum, BigInteger.TEN.pow(n));
        return 1;
    }

    int years(int seed, int n) {
        if (!in(seed, 0, 999999) || !in(n, 0, 60)) {
            return bad();
        }
        BigInteger x = BigInteger.valueOf(seed);
        int often = 0;
        for (int year = 0; year < n; year++) {
            int world = 0;
            for (int d = 0; d < 6; d++) {
                x = x.multiply(BigInteger.valueOf(1103515245)).add(BigInteger.valueOf(12345))
                        .mod(BigInteger.valueOf(2147483648L));
                world |= x.shiftRight(16).intValue() % 4 << 2 * d;
            }
            often += fits(world, s.kinds, 0) ? 1 : 0;
        }
        return often;
    }

    long part(int what) {
        return what == 0 ? above.longValueExact() : what == 1 ? below.longValueExact() : bad();
    }

    int image(int i) {
        if (!in(i, 0, 1)) {
            return bad();
        }
        images[i] = s.copy();
        return 1;
    }

    int from(int i) {
        if (!in(i, 0, 1)) {
            return bad();
        }
        if (images[i] == null) {
            return no();
        }
        s = images[i].copy();
        return 1;
    }

    int status(int what) {
        if (!in(what, 0, 2)) {
            bad();
            return -1;
        }
        return refused[what];
    }

    private int laws() {
        int n = 0;
        for (boolean[] row : s.law) {
            for (boolean there : row) {
                n += there ? 1 : 0;
            }
        }
        return n;
    }

    private int[] counts() {
        int days = (int) Arrays.stream(s.known).filter(e -> e != -1).count();
        return new int[] {s.kinds.size(), laws(), s.marks.size(), days, s.undo.size(),
            text.length()};
    }

    int count(int what) {
        return in(what, 0, 5) ? counts()[what] : bad();
    }

    long digest() {
        List<Long> v = new ArrayList<>();
        for (int n : counts()) {
            v.add((long) n);
        }
        for (boolean[] row : s.law) {
            for (boolean there : row) {
                v.add(there ? 1L : 0L);
            }
        }
        for (int e : s.known) {
            v.add((long) e);
        }
        for (int i = 0; i < s.kinds.size(); i++) {
            v.add((long) s.kinds.get(i));
            v.add((long) s.trips.get(i));
        }
        for (Mark k : s.marks) {
            for (int n : new int[] {k.who(), k.day(), k.events(), k.mark(), k.trips()}) {
                v.add((long) n);
            }
        }
        v.add(above.longValueExact());
        v.add(below.longValueExact());
        long h = 1291;
        for (long n : v) {
            h = 31 * h + n;
        }
        return h;
    }
}
