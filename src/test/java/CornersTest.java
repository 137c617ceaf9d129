import java.util.Arrays;
import java.util.HashMap;
import java.util.LinkedHashMap;
import java.util.List;
import java.util.Map;

/**
 * Every call with every number at the ends of its range, just beyond them and as far as can be,
 * each on objects with nothing, with something and with all there may be: the answer, the digest
 * and STATUS are the Model's, and a refused call or a question changes nothing but STATUS.
 */
public final class CornersTest {
    private static final Check check = new Check();
    private static final String EIGHT_MARKS =
            "one 1 9,one 2 0,one 4 2,one 5 3,mark 0 0 1 0,mark 1 2 14 1,mark 2 4 3 1,mark 3 5 7 1,"
            + "mark 0 4 1 1,mark 1 5 6 2,mark 3 1 9 0,mark 2 2 6 2";
    private static final Map<String, Calls.Call> BY_NAME = byName();

    /** Calls that make an object, each a name with its numbers; '...' is typed. */
    private static Map<String, String> states() {
        Map<String, String> s = new LinkedHashMap<>();
        s.put("new", "");
        s.put("one inspector", "one 0 0");
        s.put("nothing but images", "image 0,image 1");
        s.put("images that may be undone", "one 3 9,mark 0 0 1 1,known 0 1,image 0,known 5 3,image 1,"
                + "undo,undo,'office;known 0 3;one 4 2;mark 0 0 1 0;',journeys 3");
        s.put("four inspectors", "one 0 0,one 3 9,one 4 2,one 5 3,never 0 3,never 3 0,known 5 0");
        s.put("eight marks", EIGHT_MARKS + ",never 0 1,image 1,chance 1 3");
        s.put("eight marks to undo", EIGHT_MARKS + ",image 0,chance 1 1");
        s.put("eight to undo and one more", "one 4 1,known 0 0,known 0 1,mark 0 2 6 1,known 3 -1,"
                + "known 3 2,mark 0 0 5 0,mark 0 4 5 2,known 5 3,known 5 3");
        s.put("no world fits", "one 0 0,one 4 0,chance 1 1,mark 0 0 1 0,mark 0 0 1 1,image 0");
        s.put("all laws", "one 5 0," + allLaws() + ",mark 0 5 3 1");
        s.put("no world by a law", "one 2 2,known 4 0,known 5 3,never 0 3,mark 0 0 1 1");
        s.put("one world", "one 0 9,one 1 0,known 0 0,known 1 1,known 2 2,known 3 3,known 4 0,"
                + "known 5 3,mark 1 5 1 1,mark 0 0 1 1");
        s.put("150 bytes", "one 2 5,known 0 0,'office;one 5 9;one 0 0;one 4 2;one 3 0;known 5 3;"
                + "never 3 3;mark 3 0 0 1 2 3;mark 2 4 1 0;mark 1 5 1 3 2;mark 0 0 1 2 1 0;"
                + "never 0 0;                ',journeys 3");
        s.put("a fault at the end", "one 2 5,'office;one 0 0;never 0'");
        return s;
    }

    private static Map<String, Calls.Call> byName() {
        Map<String, Calls.Call> found = new HashMap<>();
        Calls.all(4).forEach(call -> found.put(call.name(), call));
        return found;
    }

    private static String allLaws() {
        StringBuilder laws = new StringBuilder();
        for (int n = 0; n < 16; n++) {
            laws.append(n == 0 ? "" : ",").append("never ").append(n / 4).append(' ').append(n % 4);
        }
        return laws.toString();
    }

    private final String state;
    private final String made;
    private final int inspectors;

    private CornersTest(String state, String made) {
        this.state = state;
        this.made = made;
        inspectors = newObject().count(0);
    }

    public static void main(String[] args) {
        states().forEach((state, made) -> new CornersTest(state, made).allCalls());
        check.end();
    }

    /** Runs the calls of a state on either side, the other being null. */
    private static void run(String made, ProphetAudit x, Model y) {
        for (String call : made.isEmpty() ? new String[0] : made.split(",")) {
            if (call.startsWith("'")) {
                for (char c : call.substring(1, call.length() - 1).toCharArray()) {
                    run(x, y, "type", new int[] {c});
                }
            } else {
                String[] words = call.split(" ");
                run(x, y, words[0], Arrays.stream(words).skip(1).mapToInt(Integer::parseInt).toArray());
            }
        }
    }

    private static void run(ProphetAudit x, Model y, String name, int[] n) {
        Calls.Call call = BY_NAME.get(name);
        long answer = x == null ? call.due().by(y, n) : call.made().by(x, n);
        if (answer < -1) {
            throw new IllegalStateException(name + Arrays.toString(n) + " answers " + answer);
        }
    }

    private ProphetAudit newObject() {
        ProphetAudit x = new ProphetAudit();
        run(made, x, null);
        return x;
    }

    private Model newModel() {
        Model y = new Model();
        run(made, null, y);
        return y;
    }

    private void allCalls() {
        for (Calls.Call call : Calls.all(inspectors)) {
            corners(call, new int[call.ranges().size()], 0);
        }
    }

    /** Goes through all edges of the numbers from this one on. */
    private void corners(Calls.Call call, int[] n, int from) {
        if (from == n.length) {
            corner(call, n.clone());
            return;
        }
        for (int edge : call.edges(from)) {
            n[from] = edge;
            corners(call, n, from + 1);
        }
    }

    private void corner(Calls.Call call, int[] n) {
        String what = state + ": " + call.name() + Arrays.toString(n);
        ProphetAudit x = newObject();
        Model y = newModel();
        int[] before = Whole.status(x);
        long answer = call.made().by(x, n);
        check.same(what, answer, call.due().by(y, n));
        check.same(what + " digest", x.digest(), y.digest());
        int[] behind = Whole.status(x);
        int[] added = new int[3];
        for (int k = 0; k < 3; k++) {
            check.same(what + " status " + k, behind[k], y.status(k));
            added[k] = behind[k] - before[k];
        }
        boolean fine = call.mayBe(n);
        if (!fine) {
            check.same(what + " is refused", answer, call.refused());
        }
        check.same(what + " is BAD", added[0], fine ? 0 : 1);
        boolean refused = added[0] + added[1] + added[2] > 0;
        if (refused || call.asks()) {
            List<Long> left = Whole.of(x);
            check.holds(what + " changes nothing", left.equals(Whole.of(newObject())));
        }
    }
}
