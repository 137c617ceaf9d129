import java.util.List;

/** The edges that 'Terms' names: laws, kinds, trips, marks, undoing, images, what is refused. */
public final class TermsTest {
    private static final Check check = new Check();
    private static final int NONE = ProphetAudit.NONE, BAD = ProphetAudit.BAD, NO = ProphetAudit.NO,
            FULL = ProphetAudit.FULL;

    public static void main(String[] args) {
        lawsOfTheFirstAndTheLastDays();
        theLastDayIsNotAheadOfTheFirst();
        anEventThatNeverFollowsItself();
        brown();
        old();
        tired();
        sunny();
        tripsGoBeyondNine();
        tripsAsTheyWere();
        eightMarks();
        undoOfNothing();
        undoOfEightAndOneMore();
        undoBehindALaw();
        undoBehindAnInspector();
        undoOfWhatBecomesNoOther();
        undoOfARefusedCall();
        undoIsNotUndone();
        imagesKeepEight();
        imagesAreApart();
        noImage();
        badIsFirst();
        refusedOnce();
        otherAnswersAreNoRefusals();
        lowestTerms();
        lastCalls();
        check.end();
    }

    private static void lawsOfTheFirstAndTheLastDays() {
        for (int d = 0; d < 5; d++) {
            ProphetAudit x = new ProphetAudit();
            x.known(d, 0);
            x.known(d + 1, 3);
            check.same("no law: days " + d, x.worlds(), 256);
            x.never(0, 3);
            check.same("a law: days " + d, x.worlds(), 0);
            x.office();
            x.known(d, 3);
            x.known(d + 1, 0);
            x.never(0, 3);
            check.holds("not the other way: days " + d, x.worlds() > 0);
        }
    }

    private static void theLastDayIsNotAheadOfTheFirst() {
        ProphetAudit x = new ProphetAudit();
        x.never(0, 1);
        x.known(5, 0);
        x.known(0, 1);
        // Four days lie between: as many rows of four without 0 1 as 209.
        check.same("day 5, day 0", x.worlds(), 209);
    }

    private static void anEventThatNeverFollowsItself() {
        ProphetAudit x = new ProphetAudit();
        for (int e = 0; e < 4; e++) {
            x.never(e, e);
        }
        check.same("4 times 3 to the 5", x.worlds(), 972);
    }

    /** The marks 0, 1, 2 to a saying, in quarters of all worlds. */
    private static void marks(String what, ProphetAudit x, int d, int events, int... quarters) {
        for (int m = 0; m < 3; m++) {
            check.same(what + " day " + d + " events " + events + " mark " + m,
                    x.gives(0, d, events, m), 1024 * quarters[m]);
        }
    }

    private static ProphetAudit inspector(int kind, int trips) {
        ProphetAudit x = new ProphetAudit();
        x.one(kind, trips);
        return x;
    }

    private static void brown() {
        ProphetAudit x = inspector(1, 9);
        for (int d = 0; d < 4; d++) {
            marks("below 4: as plain", x, d, 1, 3, 1, 0);
        }
        marks("4 or more", x, 4, 1, 0, 4, 0);
        marks("4 or more", x, 5, 1, 0, 4, 0);
    }

    private static void old() {
        ProphetAudit x = inspector(2, 9);
        for (int d = 0; d < 6; d += 2) {
            marks("even: as plain", x, d, 14, 1, 3, 0);
            marks("odd: nothing", x, d + 1, 14, 0, 0, 4);
        }
    }

    private static void tired() {
        for (int d = 0; d < 6; d += 2) {
            marks("2 trips: as old", inspector(4, 2), d, 3, 2, 2, 0);
            marks("2 trips: as old", inspector(4, 2), d + 1, 3, 0, 0, 4);
            marks("3 trips: nothing", inspector(4, 3), d, 3, 0, 0, 4);
            marks("3 trips: nothing", inspector(4, 3), d + 1, 3, 0, 0, 4);
        }
        ProphetAudit x = inspector(4, 2);
        x.mark(0, 0, 1, 0);
        check.same("the third trip", x.gives(0, 2, 1, 2), x.worlds());
        x.undo();
        check.same("the trip is undone", x.gives(0, 2, 1, 2), 0);
    }

    private static void sunny() {
        ProphetAudit x = inspector(5, 0);
        marks("1 event: as coy", x, 0, 8, 1, 3, 0);
        marks("2 events: as coy", x, 5, 12, 2, 2, 0);
        for (int events : new int[] {7, 11, 13, 14}) {
            marks("3 events", x, 5, events, 0, 4, 0);
        }
        marks("a coy one and 3 events", inspector(3, 0), 5, 14, 3, 1, 0);
    }

    private static void tripsGoBeyondNine() {
        ProphetAudit x = inspector(0, 9);
        for (int n = 1; n <= 8; n++) {
            x.mark(0, 0, 1, 1);
            check.same("one more", x.of(0, 1), 9 + n);
        }
        x.mark(0, 0, 1, 1);
        check.same("not by a refused one", x.of(0, 1), 17);
        for (int n = 8; n >= 1; n--) {
            x.undo();
            check.same("as ahead of it", x.of(0, 1), 8 + n);
        }
    }

    private static void tripsAsTheyWere() {
        ProphetAudit x = inspector(4, 1);
        x.mark(0, 0, 1, 1);
        x.mark(0, 2, 2, 1);
        x.mark(0, 4, 4, 2);
        check.same("by two of them", x.worlds(), 256);
        check.same("what each tells", x.tells(), 3);
    }

    private static void eightMarks() {
        ProphetAudit x = inspector(3, 0);
        check.same("none", x.count(2), 0);
        for (int n = 1; n <= 8; n++) {
            check.same("a mark", x.mark(0, n % 6, n, 1), n);
        }
        long before = x.digest();
        check.same("a ninth", x.mark(0, 0, 1, 1), FULL);
        check.same("nothing is changed", x.digest(), before);
        x.undo();
        check.same("room again", x.mark(0, 5, 14, 0), 8);
    }

    private static void undoOfNothing() {
        ProphetAudit x = new ProphetAudit();
        check.same("nothing to undo", x.undo(), NO);
        x.known(0, 0);
        x.undo();
        check.same("no more", x.undo(), NO);
        x.known(0, 0);
        x.office();
        check.same("behind office()", x.undo(), NO);
        check.same("three refused", x.status(1), 3);
    }

    private static void undoOfEightAndOneMore() {
        ProphetAudit x = inspector(0, 0);
        x.known(0, 2);
        for (int n = 0; n < 7; n++) {
            x.mark(0, 1, 1, 1);
        }
        check.same("eight", x.count(4), 8);
        x.known(5, 3);
        check.same("eight at most", x.count(4), 8);
        x.known(5, 1);
        check.same("eight at most", x.count(4), 8);
        check.same("the tenth", x.undo(), 7);
        check.same("the ninth", x.undo(), 7);
        for (int n = 6; n >= 1; n--) {
            check.same("marks then", x.undo(), n);
        }
        check.same("eight were undone", x.undo(), NO);
        check.same("one mark stays", x.count(2), 1);
        check.same("the known one stays", x.known(0, 0), 2);
        check.same("day 5 is known no more", x.known(5, 0), NONE);
    }

    private static void undoBehindALaw() {
        ProphetAudit x = new ProphetAudit();
        x.known(0, 0);
        x.never(3, 3);
        check.same("a new law", x.undo(), NO);
        x.known(0, 1);
        x.never(3, 3);
        check.same("a law there already", x.count(4), 0);
        x.known(0, 2);
        x.never(3, 4);
        check.same("no law", x.undo(), 0);
        check.same("the day is as it was", x.known(0, 0), 1);
    }

    private static void undoBehindAnInspector() {
        ProphetAudit x = new ProphetAudit();
        for (int i = 0; i < 4; i++) {
            x.known(0, i);
            x.one(0, 0);
            check.same("one came", x.undo(), NO);
        }
        x.known(0, 0);
        check.same("a fifth does not", x.one(0, 0), FULL);
        check.same("so it may be undone", x.undo(), 0);
        check.same("as it was", x.known(0, 0), 3);
    }

    private static void undoOfWhatBecomesNoOther() {
        ProphetAudit x = new ProphetAudit();
        x.known(4, NONE);
        check.same("none was, none is", x.count(4), 1);
        x.known(4, 2);
        x.known(4, 2);
        check.same("2 was, 2 is", x.count(4), 3);
        x.undo();
        check.same("still known", x.count(3), 1);
        x.undo();
        check.same("not known", x.count(3), 0);
        x.undo();
        check.same("no more", x.undo(), NO);
    }

    private static void undoOfARefusedCall() {
        ProphetAudit x = inspector(0, 0);
        x.known(6, 0);
        x.known(0, 4);
        x.mark(0, 0, 15, 0);
        x.mark(1, 0, 1, 0);
        check.same("nothing came", x.undo(), NO);
    }

    private static void undoIsNotUndone() {
        ProphetAudit x = inspector(0, 0);
        x.known(0, 1);
        x.known(0, 2);
        x.undo();
        check.same("one is left", x.count(4), 1);
        x.undo();
        check.same("the one ahead of it", x.count(3), 0);
    }

    private static void imagesKeepEight() {
        ProphetAudit x = inspector(0, 0);
        for (int n = 0; n < 9; n++) {
            x.known(n % 6, n % 4);
        }
        x.image(0);
        x.office();
        x.from(0);
        check.same("eight to undo", x.count(4), 8);
        x.mark(0, 0, 1, 1);
        check.same("still eight", x.count(4), 8);
        x.from(0);
        for (int n = 0; n < 8; n++) {
            check.same("undo", x.undo(), 0);
        }
        check.same("the first was forgotten", x.undo(), NO);
        check.same("it stays", x.known(0, NONE), 0);
        check.same("the others are gone", x.count(3), 0);
    }

    private static void imagesAreApart() {
        ProphetAudit x = inspector(5, 9);
        x.image(0);
        x.mark(0, 5, 14, 0);
        x.image(1);
        x.image(1);
        x.from(0);
        check.same("no mark in 0", x.count(2), 0);
        check.same("trips in 0", x.of(0, 1), 9);
        x.known(3, 3);
        x.from(1);
        check.same("a mark in 1", x.count(2), 1);
        check.same("trips in 1", x.of(0, 1), 10);
        check.same("nothing known in 1", x.count(3), 0);
        x.image(0);
        x.office();
        x.from(0);
        check.same("1 has become 0", x.count(2), 1);
        check.same("it may be undone", x.undo(), 0);
    }

    private static void noImage() {
        ProphetAudit x = new ProphetAudit();
        check.same("no image 0", x.from(0), NO);
        check.same("no image 1", x.from(1), NO);
        x.image(0);
        check.same("no image 1", x.from(1), NO);
        check.same("image 0", x.from(0), 1);
        x.office();
        check.same("office() keeps it", x.from(0), 1);
        check.same("of a new office", x.worlds(), 4096);
    }

    private static void badIsFirst() {
        ProphetAudit x = new ProphetAudit();
        check.same("BAD, not NO", x.from(2), BAD);
        for (int n = 0; n < 4; n++) {
            x.one(0, 0);
        }
        check.same("BAD, not FULL", x.one(0, 10), BAD);
        for (int n = 0; n < 8; n++) {
            x.mark(0, 0, 1, n % 2);
        }
        check.same("BAD, not FULL", x.mark(0, 0, 1, 3), BAD);
        check.same("BAD, not NO", x.chance(6, 0), BAD);
        for (int n = 0; n < 150; n++) {
            x.type(127);
        }
        check.same("BAD, not FULL", x.type(128), BAD);
        check.same("all BAD", x.status(0), 5);
        check.same("none NO", x.status(1), 0);
        check.same("none FULL", x.status(2), 0);
    }

    private static void refusedOnce() {
        ProphetAudit x = inspector(0, 0);
        x.mark(-1, 6, 0, 3);
        check.same("four numbers, one call", x.status(0), 1);
        x.known(-1, -2);
        check.same("two numbers, one call", x.status(0), 2);
        x.bets(-1, -2);
        check.same("two numbers, one call", x.status(0), 3);
        x.status(3);
        check.same("another what", x.status(0), 4);
        x.status(0);
        check.same("one that is told is none", x.status(0), 4);
    }

    private static void otherAnswersAreNoRefusals() {
        ProphetAudit x = Check.told("office;one 0 0;mark 0 0 2 0;known 0 0;known 1 0;never 0 0;");
        List<Integer> answers = List.of(x.next(0), x.sure(0, 0, 0), x.sure(0, 0, 1), x.wrong(),
                x.known(5, 0));
        for (int answer : answers) {
            check.same("NONE", answer, NONE);
        }
        check.same("not so many", x.bets(0, 16), -5);
        check.same("a fault", Check.read(x, ""), -10);
        check.same("a fault at 149", Check.read(x, " ".repeat(149) + "x"), -159);
        for (int k = 0; k < 3; k++) {
            check.same("none is counted " + k, x.status(k), 0);
        }
    }

    private static void fraction(String what, ProphetAudit x, long above, long below) {
        check.same(what + " above", x.part(0), above);
        check.same(what + " below", x.part(1), below);
    }

    private static void lowestTerms() {
        ProphetAudit x = inspector(0, 0);
        fraction("at first", x, 0, 1);
        x.chance(0, 0);
        fraction("1024 of 4096", x, 1, 4);
        x.known(0, 0);
        x.chance(0, 0);
        fraction("all", x, 1, 1);
        x.chance(0, 3);
        fraction("none", x, 0, 1);
        x.mark(0, 0, 1, 0);
        x.journeys(0);
        fraction("none, in the mean", x, 0, 1);
        x.journeys(5);
        fraction("512 in the mean", x, 512, 1);
        check.same("a NO leaves it", x.chance(0, 0), NO);
        fraction("a NO leaves it", x, 512, 1);
        x.office();
        fraction("office() leaves it", x, 512, 1);
    }

    /** An object may be used for 512 calls: the last ones are as good as the first. */
    private static void lastCalls() {
        ProphetAudit x = new ProphetAudit();
        for (int n = 0; n < 511; n++) {
            x.type(-1);
        }
        check.same("the 512th call", x.status(0), 511);
        x = inspector(0, 0);
        for (int n = 0; n < 255; n++) {
            x.mark(0, 5, 14, 0);
            x.undo();
        }
        check.same("the 512th call", x.mark(0, 5, 14, 0), 1);
    }
}
