/** Promises 12 to 25: what is asked of the worlds. */
public final class WorldsTest {
    private static final Check check = new Check();
    private static final int NONE = ProphetAudit.NONE, BAD = ProphetAudit.BAD;

    public static void main(String[] args) {
        worlds();
        may();
        chance();
        must();
        ruled();
        gives();
        next();
        sure();
        wrong();
        is();
        tells();
        bets();
        journeys();
        years();
        questionsChangeNothing();
        check.end();
    }

    /** An office in which no world fits: a plain one said two things of day 0. */
    private static ProphetAudit noneFits() {
        return Check.told("office;one 0 0;mark 0 0 1 0;mark 0 0 1 1;");
    }

    /** The fraction, as above by below. */
    private static void fraction(String what, ProphetAudit x, long above, long below) {
        check.same(what + " above", x.part(0), above);
        check.same(what + " below", x.part(1), below);
    }

    private static void refused(String what, ProphetAudit x, int bad) {
        check.same(what + " status BAD", x.status(0), bad);
        check.same(what + " status NO", x.status(1), 0);
        check.same(what + " status FULL", x.status(2), 0);
    }

    private static void worlds() {
        check.same("12: all", new ProphetAudit().worlds(), 4096);
        check.same("12: a law", Check.told("office;never 0 0;").worlds(), 3105);
        check.same("12: a known day", Check.told("office;known 5 0;").worlds(), 1024);
        check.same("12: all known",
                Check.told("office;known 0 0;known 1 1;known 2 2;known 3 3;known 4 0;known 5 1;")
                        .worlds(), 1);
        check.same("12: known days against a law",
                Check.told("office;known 0 0;known 1 1;never 0 1;").worlds(), 0);
        check.same("12: a law is not for the day ahead",
                Check.told("office;known 0 0;known 1 1;never 1 0;").worlds() > 0 ? 1 : 0, 1);
        check.same("12: marks", Check.told("office;one 0 0;mark 0 1 1 0 1;mark 0 1 0 1;").worlds(),
                1024);
        check.same("12: none", noneFits().worlds(), 0);
        check.same("12: trips as they were",
                Check.told("office;one 4 2;mark 0 0 1 3;mark 0 2 2 3;").worlds(), 1024);
    }

    private static void may() {
        ProphetAudit x = Check.told("office;one 0 0;known 1 2;mark 0 0 1 0 3;never 3 1;");
        check.same("13: by a mark", x.may(0), 9);
        check.same("13: known", x.may(1), 4);
        check.same("13: free", x.may(5), 15);
        x = Check.told("office;known 0 3;never 3 1;");
        check.same("13: by a law", x.may(1), 13);
        x = Check.told("office;known 1 1;never 3 1;");
        check.same("13: by a law backwards", x.may(0), 7);
        check.same("13: none fits", noneFits().may(0), 0);
        check.same("13: BAD", x.may(-1), BAD);
        check.same("13: BAD", x.may(6), BAD);
        refused("13:", x, 2);
    }

    private static void chance() {
        ProphetAudit x = Check.told("office;never 3 0;never 3 1;never 3 2;never 3 3;");
        check.same("14: 1", x.chance(5, 3), 1);
        fraction("14: last day", x, 1, 4);
        check.same("14: 1", x.chance(0, 3), 1);
        fraction("14: not at all", x, 0, 1);
        check.same("14: 1", x.chance(0, 0), 1);
        fraction("14: one of three", x, 1, 3);
        x.known(0, 0);
        check.same("14: 1", x.chance(0, 0), 1);
        fraction("14: for sure", x, 1, 1);
        x = Check.told("office;never 0 1;known 2 0;");
        x.chance(1, 2);
        fraction("14: worlds, not events, are alike likely", x, 4, 15);
        int[][] bad = {{6, 0}, {-1, 0}, {0, 4}, {0, -1}};
        for (int[] b : bad) {
            check.same("14: BAD", x.chance(b[0], b[1]), BAD);
        }
        fraction("14: it stays", x, 4, 15);
        refused("14:", x, 4);
        x.one(0, 0);
        x.mark(0, 0, 1, 0);
        x.mark(0, 0, 1, 1);
        check.same("14: NO", x.chance(0, 0), ProphetAudit.NO);
        check.same("14: BAD comes ahead of NO", x.chance(0, 4), BAD);
        fraction("14: it stays", x, 4, 15);
        check.same("14: status NO", x.status(1), 1);
    }

    private static void must() {
        check.same("15: no day", new ProphetAudit().must(), 0);
        check.same("15: known days", Check.told("office;known 1 2;known 4 0;").must(), 18);
        check.same("15: by marks", Check.told("office;one 3 0;mark 0 5 0 3;").must(), 32);
        check.same("15: by laws", Check.told("office;known 0 0;never 0 1;never 0 2;never 0 3;").must(),
                63);
        check.same("15: none fits", noneFits().must(), 63);
    }

    private static void ruled() {
        ProphetAudit x = Check.told("office;never 3 0;never 3 1;never 3 2;never 3 3;one 0 0;"
                + "mark 0 1 1 0;known 3 1;");
        check.same("16: by laws", x.ruled(0), 8);
        check.same("16: marks are nothing here", x.ruled(1), 8);
        check.same("16: by a known day", x.ruled(3), 13);
        check.same("16: nothing", x.ruled(5), 0);
        x.known(2, 3);
        check.same("16: no world", x.ruled(5), 15);
        check.same("16: none fits by marks", noneFits().ruled(0), 0);
        check.same("16: BAD", x.ruled(6), BAD);
        check.same("16: BAD", x.ruled(-1), BAD);
        refused("16:", x, 2);
    }

    private static void gives() {
        // kind, trips, day, events, then how many worlds of each mark, in quarters
        int[][] rows = {
            {0, 0, 0, 1, 3, 1, 0}, {0, 9, 5, 6, 2, 2, 0}, {0, 3, 1, 14, 1, 3, 0},
            {1, 0, 3, 1, 3, 1, 0}, {1, 0, 4, 1, 0, 4, 0}, {1, 5, 5, 3, 0, 4, 0},
            {2, 0, 0, 1, 3, 1, 0}, {2, 9, 4, 3, 2, 2, 0}, {2, 0, 1, 1, 0, 0, 4}, {2, 0, 5, 7, 0, 0, 4},
            {3, 0, 0, 1, 1, 3, 0}, {3, 4, 5, 7, 3, 1, 0}, {3, 0, 1, 3, 2, 2, 0},
            {4, 2, 0, 1, 3, 1, 0}, {4, 3, 0, 1, 0, 0, 4}, {4, 9, 2, 1, 0, 0, 4}, {4, 0, 3, 1, 0, 0, 4},
            {5, 0, 0, 1, 1, 3, 0}, {5, 9, 1, 3, 2, 2, 0}, {5, 0, 0, 7, 0, 4, 0}, {5, 3, 5, 14, 0, 4, 0},
        };
        for (int[] r : rows) {
            ProphetAudit x = new ProphetAudit();
            x.one(r[0], r[1]);
            for (int m = 0; m < 3; m++) {
                check.same("17: kind " + r[0] + " trips " + r[1] + " day " + r[2] + " events " + r[3]
                        + " mark " + m, x.gives(0, r[2], r[3], m), 1024 * r[4 + m]);
            }
        }
        ProphetAudit x = Check.told("office;one 4 0;mark 0 0 1 0;mark 0 0 1 0;mark 0 0 1 0;one 0 0;");
        check.same("17: trips have gone on", x.gives(0, 0, 1, 2), 1024);
        check.same("17: of worlds that fit alone", x.gives(1, 0, 1, 1), 1024);
        check.same("17: none", x.gives(1, 0, 1, 0), 0);
        check.same("17: none fits", noneFits().gives(0, 0, 1, 0), 0);
        int[][] bad = {{2, 0, 1, 0}, {-1, 0, 1, 0}, {0, 6, 1, 0}, {0, -1, 1, 0}, {0, 0, 0, 0},
            {0, 0, 15, 0}, {0, 0, 1, 3}, {0, 0, 1, -1}};
        for (int[] b : bad) {
            check.same("17: BAD", x.gives(b[0], b[1], b[2], b[3]), BAD);
        }
        refused("17:", x, 8);
    }

    private static void nextOf(String what, String text, int want) {
        check.same("18: " + what, Check.told(text).next(0), want);
    }

    private static void next() {
        nextOf("two of four", "office;one 0 0;", 3);
        nextOf("day 0 is known", "office;one 0 0;known 0 1;", 19);
        nextOf("an old one says nothing of day 1", "office;one 2 0;known 0 1;", 35);
        nextOf("a brown one tells nothing of day 4", "office;one 1 0;known 0 0;known 1 0;known 2 0;"
                + "known 3 0;", 1);
        nextOf("a tired one", "office;one 4 3;", 1);
        nextOf("a tired one, once more", "office;one 4 2;", 3);
        nextOf("a sunny one", "office;one 5 0;", 3);
        nextOf("three of four are worse than four", "office;one 0 0;mark 0 0 1 0 1 2;", 19);
        nextOf("one of three", "office;one 0 0;mark 0 0 1 0 1 2;known 1 0;known 2 0;known 3 0;"
                + "known 4 0;known 5 0;", 1);
        nextOf("one of the later three", "office;one 0 0;mark 0 0 1 3 1 2;known 1 0;known 2 0;known 3 0;"
                + "known 4 0;known 5 0;", 2);
        nextOf("one world", "office;one 0 0;known 0 0;known 1 0;known 2 0;known 3 0;known 4 0;"
                + "known 5 0;", 1);
        nextOf("none fits", "office;one 0 0;mark 0 0 1 0;mark 0 0 1 1;", NONE);
        ProphetAudit x = noneFits();
        check.same("18: NONE", x.next(0), NONE);
        check.same("18: BAD", x.next(1), BAD);
        check.same("18: BAD", x.next(-1), BAD);
        refused("18: NONE is no refusal,", x, 2);
    }

    private static void sureOf(String text, int day, int sayings, int first) {
        ProphetAudit x = Check.told(text);
        check.same("19: sayings " + text + " day " + day, x.sure(0, day, 0), sayings);
        check.same("19: first " + text + " day " + day, x.sure(0, day, 1), first);
    }

    private static void sure() {
        sureOf("office;one 0 0;", 0, 2, 3);
        sureOf("office;one 0 0;mark 0 3 1 0 1 2;", 3, 2, 1);
        sureOf("office;one 0 0;mark 0 3 0 0;", 3, 2, 2);
        sureOf("office;one 0 0;mark 0 3 1 0 3;", 3, 1, 1);
        sureOf("office;one 3 0;mark 0 3 0 2 3;", 3, 1, 4);
        sureOf("office;one 0 0;known 3 2;", 3, 0, 0);
        sureOf("office;one 1 0;", 3, 2, 3);
        sureOf("office;one 1 0;", 4, NONE, NONE);
        sureOf("office;one 1 0;known 4 2;", 4, 0, 0);
        sureOf("office;one 2 9;", 1, NONE, NONE);
        sureOf("office;one 2 9;", 2, 2, 3);
        sureOf("office;one 4 1;", 2, 2, 3);
        sureOf("office;one 4 2;", 2, NONE, NONE);
        sureOf("office;one 4 1;mark 0 2 1 1 2;", 2, 1, 2);
        sureOf("office;one 4 2;mark 0 2 1 1 2;", 2, NONE, NONE);
        sureOf("office;one 4 3;known 2 0;", 2, 0, 0);
        sureOf("office;one 4 0;", 5, NONE, NONE);
        sureOf("office;one 5 9;", 5, 2, 3);
        sureOf("office;one 5 0;mark 0 5 0 1 2;one 0 0;", 5, 1, 2);
        sureOf("office;one 0 0;mark 0 0 1 0;mark 0 0 1 1;", 1, NONE, NONE);
        ProphetAudit x = noneFits();
        int[][] bad = {{1, 0, 0}, {-1, 0, 0}, {0, 6, 0}, {0, -1, 0}, {0, 0, 2}, {0, 0, -1}};
        for (int[] b : bad) {
            check.same("19: BAD", x.sure(b[0], b[1], b[2]), BAD);
        }
        x.sure(0, 0, 0);
        refused("19: NONE is no refusal,", x, 6);
    }

    private static void wrongOf(String what, String text, int want) {
        check.same("20: " + what, Check.told(text).wrong(), want);
    }

    private static void wrong() {
        wrongOf("no marks", "office;", 0);
        wrongOf("all fit", "office;one 0 0;mark 0 0 1 0;", 0);
        wrongOf("of like ones the least", "office;one 0 0;mark 0 0 1 0;mark 0 0 1 1;", 1);
        wrongOf("one against two", "office;one 0 0;mark 0 0 1 0;mark 0 0 1 0 1;mark 0 0 1 1;", 1);
        wrongOf("two against one", "office;one 0 0;mark 0 0 1 0;mark 0 0 1 0;mark 0 0 1 1;", 4);
        wrongOf("one higher rather than two lower",
                "office;one 0 0;mark 0 0 1 0;mark 0 0 1 0 1;mark 0 0 1 1;mark 0 0 1 0;", 4);
        wrongOf("on two days", "office;one 0 0;mark 0 0 1 0;mark 0 0 1 1;mark 0 1 1 0;mark 0 1 1 1;",
                5);
        wrongOf("against a law", "office;one 0 0;never 0 1;mark 0 0 1 0;mark 0 1 1 1;", 1);
        wrongOf("against a known day", "office;one 0 0;mark 0 0 1 0;mark 0 1 1 0;known 1 2;", 2);
        wrongOf("of the last day", "office;one 0 0;known 5 0;mark 0 5 0 0;", 1);
        wrongOf("on the last day event 0", "office;one 0 0;known 5 0;mark 0 5 1 0;", 0);
        wrongOf("by none", "office;known 0 0;known 1 0;never 0 0;", NONE);
        String eight = "mark 0 0 2 0;".repeat(8);
        wrongOf("all eight", "office;one 0 0;" + eight, 255);
        ProphetAudit x = Check.told("office;known 0 0;known 1 0;never 0 0;");
        x.wrong();
        refused("20: NONE is no refusal,", x, 0);
    }

    private static void isOf(String what, String text, int want) {
        check.same("21: " + what, Check.told(text).is(0), want);
    }

    private static void is() {
        isOf("no marks", "office;one 0 0;", 63);
        isOf("a true one", "office;one 5 0;known 0 0;mark 0 0 1 0;", 23);
        isOf("trips as they were", "office;one 5 3;known 0 0;mark 0 0 1 0;", 7);
        isOf("trips as they were, not as they are", "office;one 5 2;known 0 0;mark 0 0 1 0;", 23);
        isOf("three events", "office;one 3 0;known 0 0;mark 0 0 1 0 1 2;", 55);
        isOf("nothing", "office;one 3 0;mark 0 1 2 0;", 20);
        isOf("a false one", "office;one 0 0;known 0 0;mark 0 0 0 0;", 40);
        isOf("a brown one", "office;one 0 0;known 4 0;mark 0 4 1 1;known 5 0;mark 0 5 1 0;", 2);
        isOf("none", "office;one 0 0;mark 0 0 2 0;mark 0 0 1 0;mark 0 0 0 0;", 0);
        isOf("another's marks", "office;one 0 0;one 0 0;mark 1 0 2 0;", 0);
        isOf("one world is enough", "office;one 0 0;known 0 0;known 1 0;known 2 0;known 3 0;"
                + "known 4 0;known 5 0;mark 0 0 1 0;", 23);
        ProphetAudit fresh = new ProphetAudit();
        fresh.one(0, 0);
        fresh.known(0, 0);
        fresh.mark(0, 0, 1, 0);
        check.same("21: no text was read", fresh.is(0), 40);
        ProphetAudit x = noneFits();
        long before = x.digest();
        check.same("21: a coy one may have said both", x.is(0), 40);
        check.same("21: it stays what it is", x.digest(), before);
        check.same("21: BAD", x.is(1), BAD);
        check.same("21: BAD", x.is(-1), BAD);
        refused("21:", x, 2);
    }

    private static void tellsOf(String what, String text, int want) {
        check.same("22: " + what, Check.told(text).tells(), want);
    }

    private static void tells() {
        tellsOf("no marks", "office;one 0 0;", 0);
        tellsOf("each", "office;one 0 0;mark 0 0 1 0;mark 0 1 1 0;", 3);
        tellsOf("twice the same", "office;one 0 0;mark 0 0 1 0;mark 0 0 1 0;", 0);
        tellsOf("the narrower", "office;one 0 0;mark 0 0 1 0 1;mark 0 0 1 0;", 2);
        tellsOf("of a known day", "office;one 0 0;known 0 0;mark 0 0 1 0;", 0);
        tellsOf("nothing of an old one", "office;one 2 0;mark 0 1 2 0;", 0);
        tellsOf("either of two against one another", "office;one 0 0;mark 0 0 1 0;mark 0 0 1 1;", 3);
        tellsOf("three against one another", "office;one 0 0;mark 0 0 1 0;mark 0 0 1 1;mark 0 0 1 2;",
                0);
        tellsOf("by a law", "office;one 0 0;known 0 0;never 0 1;mark 0 1 0 1;mark 0 1 0 2;", 2);
        tellsOf("the eighth", "office;one 1 0;" + "mark 0 4 1 0;".repeat(7) + "mark 0 0 1 0;", 128);
    }

    private static void bets() {
        ProphetAudit x = new ProphetAudit();
        check.same("23: all but those on one", x.bets(0, NONE), 12);
        int[] pairs = {1, 2, 3, 4, 6, 7, 8, 9, 11, 12, 13, 14};
        for (int k = 0; k < 12; k++) {
            check.same("23: rising " + k, x.bets(5, k), pairs[k]);
        }
        check.same("23: not so many", x.bets(0, 12), -5);
        check.same("23: not so many", x.bets(0, Integer.MAX_VALUE), -5);
        x.known(0, 2);
        check.same("23: both on the known one", x.bets(0, NONE), 1);
        check.same("23: 10", x.bets(0, 0), 10);
        x.known(0, 0);
        check.same("23: both on event 0", x.bets(0, NONE), 1);
        check.same("23: 0", x.bets(0, 0), 0);
        ProphetAudit half = Check.told("office;one 0 0;mark 0 0 1 0 1;known 2 3;never 1 0;never 1 1;");
        check.same("23: half of it is not less", half.bets(0, NONE), 3);
        check.same("23: both on it", half.bets(0, 0), 0);
        check.same("23: one on it", half.bets(0, 1), 1);
        check.same("23: the other on it", half.bets(0, 2), 4);
        for (int d = 0; d < 6; d++) {
            x.known(d, 2);
        }
        int[] cut = {2, 6, 8, 9, 10, 11, 14};
        check.same("23: half of one is none", x.bets(3, NONE), 7);
        for (int k = 0; k < 7; k++) {
            check.same("23: half of one is none " + k, x.bets(3, k), cut[k]);
        }
        check.same("23: none fits", noneFits().bets(0, NONE), 16);
        check.same("23: none fits", noneFits().bets(0, 15), 15);
        int[][] bad = {{6, 0}, {-1, 0}, {0, -2}, {6, NONE}, {0, Integer.MIN_VALUE}};
        for (int[] b : bad) {
            check.same("23: BAD", x.bets(b[0], b[1]), -10);
        }
        refused("23: -5 is no refusal,", x, 5);
    }

    private static void journeysOf(String text, int c, long above, long below) {
        ProphetAudit x = Check.told(text);
        check.same("24: 1", x.journeys(c), 1);
        fraction("24: " + text + " by " + c, x, above, below);
    }

    private static void journeys() {
        journeysOf("office;", 3, 4096, 1);
        String one = "office;one 0 0;mark 0 0 1 0;";
        journeysOf(one, 0, 1024, 1);
        journeysOf(one, 10, 4096, 1);
        journeysOf(one, 5, 2560, 1);
        journeysOf(one, 3, 9728, 5);
        String two = one + "mark 0 0 1 1;";
        journeysOf(two, 0, 0, 1);
        journeysOf(two, 1, 5632, 25);
        journeysOf("office;one 0 0;" + "mark 0 0 1 0;".repeat(8), 1, 400000012L, 390625);
        journeysOf("office;known 0 0;known 1 0;never 0 0;", 10, 0, 1);
        ProphetAudit x = Check.told(one);
        x.journeys(3);
        check.same("24: BAD", x.journeys(-1), BAD);
        check.same("24: BAD", x.journeys(11), BAD);
        fraction("24: it stays", x, 9728, 5);
        refused("24:", x, 2);
    }

    private static void years() {
        ProphetAudit x = new ProphetAudit();
        check.same("25: no years", x.years(7, 0), 0);
        check.same("25: all", x.years(999999, 60), 60);
        int[][] drawn = {{0, 21, 13, 16, 10}, {7, 20, 12, 16, 12}, {999999, 19, 15, 8, 18}};
        for (int[] r : drawn) {
            for (int e = 0; e < 4; e++) {
                x.known(0, e);
                check.same("25: day 0 by " + r[0] + " is " + e, x.years(r[0], 60), r[1 + e]);
            }
        }
        check.same("25: laws", Check.told("office;never 0 0;").years(7, 60), 44);
        check.same("25: marks", Check.told("office;one 0 0;mark 0 2 1 0 1;").years(999999, 60), 21);
        x = Check.told("office;known 0 1;known 1 1;known 2 2;known 3 2;known 4 1;known 5 0;");
        check.same("25: not the first year", x.years(0, 1), 0);
        check.same("25: the second", x.years(0, 2), 1);
        int[][] bad = {{-1, 0}, {1000000, 0}, {0, -1}, {0, 61}};
        for (int[] b : bad) {
            check.same("25: BAD", x.years(b[0], b[1]), BAD);
        }
        refused("25:", x, 4);
    }

    private static void questionsChangeNothing() {
        ProphetAudit x = Check.told("office;never 1 2;known 3 1;one 4 1;one 5 0;mark 1 0 1 0;"
                + "mark 0 2 1 0 1;");
        x.known(4, 2);
        x.chance(0, 1);
        long before = x.digest();
        x.worlds();
        x.must();
        x.wrong();
        x.tells();
        for (int d = 0; d < 6; d++) {
            x.may(d);
            x.ruled(d);
            x.bets(d, 0);
            x.gives(0, d, 5, 1);
            x.sure(1, d, 1);
        }
        x.next(0);
        x.is(0);
        x.years(1, 60);
        check.same("12 to 25: nothing is changed", x.digest(), before);
        check.same("12 to 25: twice the same", x.worlds(), x.worlds());
    }
}
