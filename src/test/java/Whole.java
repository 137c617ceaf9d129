import java.util.ArrayList;
import java.util.List;

/** All that can be told apart of an object, but for STATUS, found by using it up. */
final class Whole {

    private Whole() { }

    /**
     * The office with all that may be undone, the images with theirs, the text by what is read
     * of it. The object is another one behind it: some sixty calls of its 512 are used.
     */
    static List<Long> of(ProphetAudit x) {
        List<Long> seen = new ArrayList<>();
        undoAll(x, seen);
        for (int i = 0; i < 2; i++) {
            x.office();
            seen.add((long) x.from(i));
            undoAll(x, seen);
        }
        seen.add((long) x.read());
        seen.add(x.digest());
        seen.add((long) x.clear());
        return seen;
    }

    private static void undoAll(ProphetAudit x, List<Long> seen) {
        seen.add(x.digest());
        while (x.count(4) > 0) {
            seen.add((long) x.undo());
            seen.add(x.digest());
        }
    }

    static int[] status(ProphetAudit x) {
        return new int[] {x.status(0), x.status(1), x.status(2)};
    }
}
