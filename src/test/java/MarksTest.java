/** Promises 8 to 11: mark, known, undo, of. */
public final class MarksTest {
    private static final Check check = new Check();

    public static void main(String[] args) {
        mark();
        known();
        undoMarks();
        undoKnown();
        undoEightAtMost();
        of();
        check.end();
    }

    private static void mark() {
        ProphetAudit x = new ProphetAudit();
        check.same("8: no inspector", x.mark(0, 0, 1, 0), ProphetAudit.BAD);
        x.one(0, 9);
        x.one(3, 0);
        int[][] bad = {{2, 0, 1, 0}, {-1, 0, 1, 0}, {0, 6, 1, 0}, {0, -1, 1, 0}, {0, 0, 0, 0},
            {0, 0, 15, 0}, {0, 0, -1, 0}, {0, 0, 1, 3}, {0, 0, 1, -1}};
        for (int[] b : bad) {
            check.same("8: BAD", x.mark(b[0], b[1], b[2], b[3]), ProphetAudit.BAD);
        }
        check.same("8: none came", x.count(2), 0);
        check.same("8: trips stay", x.of(0, 1), 9);
        check.same("8: nothing to undo", x.count(4), 0);
        check.same("8: 1", x.mark(0, 0, 14, 1), 1);
        check.same("8: trips of that one", x.of(0, 1), 10);
        check.same("8: not of the other", x.of(1, 1), 0);
        check.same("8: worlds", x.worlds(), 3072);
        check.same("8: 2", x.mark(1, 5, 1, 2), 2);
        check.same("8: a coy one never says nothing", x.worlds(), 0);
        for (int n = 3; n <= 8; n++) {
            check.same("8: n", x.mark(1, 1, 1, 1), n);
        }
        check.same("8: FULL", x.mark(0, 0, 1, 1), ProphetAudit.FULL);
        check.same("8: BAD comes ahead of FULL", x.mark(0, 0, 15, 1), ProphetAudit.BAD);
        check.same("8: trips", x.of(1, 1), 7);
        check.same("8: trips stay at FULL", x.of(0, 1), 10);
        check.same("8: status BAD", x.status(0), 11);
        check.same("8: status FULL", x.status(2), 1);
    }

    private static void known() {
        ProphetAudit x = new ProphetAudit();
        check.same("9: none was", x.known(5, 3), ProphetAudit.NONE);
        check.same("9: 3 was", x.known(5, 0), 3);
        check.same("9: 0 was", x.known(5, 0), 0);
        check.same("9: worlds", x.worlds(), 1024);
        check.same("9: count", x.count(3), 1);
        check.same("9: no more", x.known(5, ProphetAudit.NONE), 0);
        check.same("9: none was", x.known(5, ProphetAudit.NONE), ProphetAudit.NONE);
        check.same("9: worlds", x.worlds(), 4096);
        check.same("9: each may be undone", x.count(4), 5);
        int[][] bad = {{6, 0}, {-1, 0}, {0, 4}, {0, -2}, {Integer.MAX_VALUE, Integer.MIN_VALUE}};
        for (int[] b : bad) {
            check.same("9: BAD", x.known(b[0], b[1]), -10);
        }
        check.same("9: they count as BAD", x.status(0), 5);
        check.same("9: and change nothing", x.count(4), 5);
    }

    private static void undoMarks() {
        ProphetAudit x = new ProphetAudit();
        check.same("10: NO", x.undo(), ProphetAudit.NO);
        x.one(4, 2);
        x.mark(0, 0, 1, 1);
        x.mark(0, 2, 1, 2);
        long before = x.digest();
        x.mark(0, 4, 3, 0);
        check.same("10: marks then", x.undo(), 2);
        check.same("10: as ahead of it but for what may be undone", x.digest(), before);
        check.same("10: trips", x.of(0, 1), 4);
        check.same("10: worlds", x.worlds(), 1024);
        check.same("10: marks then", x.undo(), 1);
        check.same("10: trips", x.of(0, 1), 3);
        check.same("10: marks then", x.undo(), 0);
        check.same("10: trips", x.of(0, 1), 2);
        check.same("10: NO", x.undo(), ProphetAudit.NO);
        check.same("10: status", x.status(1), 2);
        check.same("10: worlds", x.worlds(), 4096);
    }

    private static void undoKnown() {
        ProphetAudit x = new ProphetAudit();
        x.one(0, 0);
        x.known(2, 1);
        x.known(2, 1);
        x.mark(0, 0, 1, 1);
        x.known(2, ProphetAudit.NONE);
        x.known(3, ProphetAudit.NONE);
        check.same("10: nothing became another", x.undo(), 1);
        check.same("10: known no more", x.count(3), 0);
        check.same("10: known again", x.undo(), 1);
        check.same("10: known", x.count(3), 1);
        check.same("10: the mark", x.undo(), 0);
        check.same("10: known as it was", x.undo(), 0);
        check.same("10: still known", x.count(3), 1);
        check.same("10: the first", x.undo(), 0);
        check.same("10: not known", x.count(3), 0);
        check.same("10: NO", x.undo(), ProphetAudit.NO);
    }

    private static void undoEightAtMost() {
        ProphetAudit x = new ProphetAudit();
        x.one(1, 0);
        for (int e = 0; e < 3; e++) {
            x.known(0, e);
        }
        for (int n = 0; n < 7; n++) {
            x.mark(0, 4, 1, 1);
        }
        check.same("10: eight at most", x.count(4), 8);
        for (int n = 6; n >= 0; n--) {
            check.same("10: marks then", x.undo(), n);
        }
        check.same("10: the eighth", x.undo(), 0);
        check.same("10: the ninth is forgotten", x.undo(), ProphetAudit.NO);
        check.same("10: known as ahead of the eighth", x.known(0, 3), 1);
    }

    private static void of() {
        ProphetAudit x = new ProphetAudit();
        check.same("11: none there", x.of(0, 0), ProphetAudit.BAD);
        x.one(5, 7);
        x.one(2, 0);
        check.same("11: kind", x.of(0, 0), 5);
        check.same("11: trips", x.of(0, 1), 7);
        check.same("11: kind", x.of(1, 0), 2);
        check.same("11: trips", x.of(1, 1), 0);
        int[][] bad = {{2, 0}, {-1, 0}, {0, 2}, {0, -1}, {Integer.MAX_VALUE, 0}};
        for (int[] b : bad) {
            check.same("11: BAD", x.of(b[0], b[1]), ProphetAudit.BAD);
        }
        check.same("11: status", x.status(0), 6);
    }
}
