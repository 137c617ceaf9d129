import java.util.Random;

/** Runs of random calls, each answer (and the digest behind it) held against the Model's. */
public final class ModelTest {
    private static final Check check = new Check();
    private static final int RUNS = 250, CALLS = 300;
    private static final String[] WORDS = {"office", "never", "known", "one", "mark"};

    private final Random random;
    private final ProphetAudit x = new ProphetAudit();
    private final Model y = new Model();
    private final String run;
    /** Marks mostly speak of one world, so that some worlds often fit. */
    private final int[] truth = new int[6];

    private ModelTest(int seed) {
        random = new Random(seed);
        run = "run " + seed + " ";
        for (int d = 0; d < 6; d++) {
            truth[d] = random.nextInt(4);
        }
    }

    public static void main(String[] args) {
        for (int seed = 0; seed < RUNS && !check.hasFailed(); seed++) {
            ModelTest test = new ModelTest(seed);
            for (int n = 0; n < CALLS && !check.hasFailed(); n++) {
                test.call(n);
                test.same(n + ": digest()", test.x.digest(), test.y.digest());
            }
            for (int what = 0; what < 3; what++) {
                test.same("status " + what, test.x.status(what), test.y.status(what));
            }
        }
        check.end();
    }

    private void same(String what, long got, long want) {
        check.same(run + what, got, want);
    }

    /** Mostly low .. high, now and then beyond it. */
    private int number(int low, int high) {
        int[] far = {low - 1, high + 1, -2, Integer.MIN_VALUE, Integer.MAX_VALUE, 100};
        return random.nextInt(25) == 0 ? far[random.nextInt(far.length)]
                : low + random.nextInt(high - low + 1);
    }

    private void call(int n) {
        int kind = random.nextInt(100);
        if (kind < 4) {
            text(n);
        } else if (kind < 50) {
            change(n, random.nextInt(24));
        } else if (kind < 90) {
            ask(n, random.nextInt(14));
        } else {
            look(n, random.nextInt(6));
        }
    }

    private void change(int n, int which) {
        int i = number(0, Math.max(0, x.count(0) - 1));
        int d = number(0, 5);
        switch (which) {
            case 0:
                if (random.nextInt(4) == 0) {
                    same(n + ": office()", x.office(), y.office());
                }
                break;
            case 1:
            case 2:
                int a = number(0, 3);
                int b = number(0, 3);
                same(n + ": never " + a + " " + b, x.never(a, b), y.never(a, b));
                break;
            case 3:
            case 4:
            case 5:
                int k = number(0, 5);
                int t = number(0, 9);
                same(n + ": one " + k + " " + t, x.one(k, t), y.one(k, t));
                break;
            case 6:
            case 7:
            case 8:
            case 9:
                int e = d >= 0 && d < 6 && random.nextInt(3) == 0 ? truth[d] : number(-1, 3);
                same(n + ": known " + d + " " + e, x.known(d, e), y.known(d, e));
                break;
            case 10:
            case 11:
            case 12:
            case 13:
                same(n + ": undo", x.undo(), y.undo());
                break;
            case 14:
                int p = number(0, 1);
                same(n + ": image " + p, x.image(p), y.image(p));
                break;
            case 15:
                int q = number(0, 1);
                same(n + ": from " + q, x.from(q), y.from(q));
                break;
            default:
                mark(n, i, d);
                break;
        }
    }

    private void mark(int n, int i, int d) {
        int events = number(1, 14);
        int m = number(0, 2);
        int kind = x.of(i, 0);
        same(n + ": of " + i, kind, y.of(i, 0));
        if (d >= 0 && d < 6 && random.nextInt(4) != 0) {
            // What a plain or a coy one would say of the truth; others are left to chance.
            int plain = events >> truth[d] & 1;
            m = kind == 3 ? 1 - plain : plain;
        }
        same(n + ": mark " + i + " " + d + " " + events + " " + m,
                x.mark(i, d, events, m), y.mark(i, d, events, m));
    }

    private void ask(int n, int which) {
        int i = number(0, 3);
        int d = number(0, 5);
        int e = number(0, 3);
        int events = number(1, 14);
        int m = number(0, 2);
        int what = number(0, 1);
        int k = number(-1, 15);
        int seed = number(0, 999999);
        int years = number(0, 60);
        String call = n + ": question " + which + " ";
        switch (which) {
            case 0 -> same(call, x.worlds(), y.worlds());
            case 1 -> same(call + d, x.may(d), y.may(d));
            case 2 -> same(call + d + " " + e, x.chance(d, e), y.chance(d, e));
            case 3 -> same(call, x.must(), y.must());
            case 4 -> same(call + d, x.ruled(d), y.ruled(d));
            case 5 -> same(call + i + " " + d + " " + events + " " + m,
                    x.gives(i, d, events, m), y.gives(i, d, events, m));
            case 6 -> same(call + i, x.next(i), y.next(i));
            case 7 -> same(call + i + " " + d + " " + what, x.sure(i, d, what), y.sure(i, d, what));
            case 8 -> same(call, x.wrong(), y.wrong());
            case 9 -> same(call + i, x.is(i), y.is(i));
            case 10 -> same(call, x.tells(), y.tells());
            case 11 -> same(call + d + " " + k, x.bets(d, k), y.bets(d, k));
            case 12 -> same(call + k, x.journeys(k), y.journeys(k));
            default -> same(call + seed + " " + years, x.years(seed, years), y.years(seed, years));
        }
    }

    private void look(int n, int which) {
        int what = number(0, which == 3 ? 5 : which == 2 ? 2 : 1);
        int i = number(0, 3);
        String call = n + ": look " + which + " " + what;
        switch (which) {
            case 0 -> same(call, x.part(0), y.part(0));
            case 1 -> same(call, x.part(what), y.part(what));
            case 2 -> same(call, x.status(what), y.status(what));
            case 3 -> same(call, x.count(what), y.count(what));
            default -> same(call + " " + i, x.of(i, what), y.of(i, what));
        }
    }

    private void text(int n) {
        StringBuilder told = new StringBuilder(random.nextInt(12) == 0 ? "" : "office;");
        int items = random.nextInt(14);
        for (int k = 0; k < items; k++) {
            item(told, random.nextInt(60) == 0 ? 0 : 1 + random.nextInt(4));
        }
        if (random.nextInt(3) == 0 && told.length() > 0) {
            spoil(told);
        }
        if (random.nextInt(5) != 0) {
            same(n + ": clear", x.clear(), y.clear());
        }
        for (int k = 0; k < told.length(); k++) {
            same(n + ": type", x.type(told.charAt(k)), y.type(told.charAt(k)));
        }
        int odd = number(0, 127);
        if (random.nextInt(6) == 0) {
            same(n + ": type " + odd, x.type(odd), y.type(odd));
        }
        same(n + ": read '" + told + "'", x.read(), y.read());
    }

    private void item(StringBuilder told, int word) {
        told.append(" ".repeat(random.nextInt(5) == 0 ? 1 : 0)).append(WORDS[word]);
        int[][] limits = {{}, {4, 4}, {6, 4}, {6, 10}, {2, 6, 3, 4, 4, 4}};
        int numbers = word == 4 ? 4 + random.nextInt(3) : limits[word].length;
        int first = random.nextInt(4);
        for (int k = 0; k < numbers; k++) {
            int most = limits[word][k] + (random.nextInt(40) == 0 ? 2 : 0);
            int figure = k >= 3 && random.nextInt(15) != 0 ? (first + k) % 4 : random.nextInt(most);
            told.append(k == 0 && random.nextBoolean() ? "" : " ");
            told.append(random.nextInt(25) == 0 ? "0" : "").append(figure);
        }
        told.append(random.nextInt(10) == 0 ? " ;" : ";");
    }

    private void spoil(StringBuilder told) {
        int at = random.nextInt(told.length());
        String[] bits = {";", " ", "a", "7", "12", "100", "-", "\0", "A", "office", "one", "{", "/"};
        switch (random.nextInt(3)) {
            case 0 -> told.setLength(at);
            case 1 -> told.deleteCharAt(at);
            default -> told.insert(at, bits[random.nextInt(bits.length)]);
        }
    }
}
