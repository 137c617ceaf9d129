import java.math.BigInteger;

/** The edges of promises 1 to 31, each with the answer worked out by hand. */
public final class EdgesTest {
    private static final Check check = new Check();
    private static final int NONE = ProphetAudit.NONE, BAD = ProphetAudit.BAD, NO = ProphetAudit.NO,
            FULL = ProphetAudit.FULL;
    private static final String ALL_KNOWN =
            "office;one 0 0;known 0 0;known 1 1;known 2 2;known 3 3;known 4 0;known 5 3;";
    /** A plain one said of day 0 that it has event 0, and that it has not. */
    private static final String NONE_FITS = "office;one 0 0;mark 0 0 1 0;mark 0 0 0 0;";
    /** No world is left whatever the marks are. */
    private static final String NO_WORLD = "office;one 0 0;mark 0 0 1 0;known 4 0;known 5 3;never 0 3;";

    public static void main(String[] args) {
        office();
        never();
        one();
        typeAndClear();
        mark();
        known();
        of();
        worlds();
        may();
        chance();
        must();
        ruled();
        gives();
        next();
        sure();
        sureByATiredOne();
        wrong();
        is();
        tells();
        bets();
        betsByHalf();
        journeys();
        years();
        yearsOfTheFirstAndTheLast();
        part();
        imageAndFrom();
        status();
        count();
        digest();
        check.end();
    }

    private static void bad(String what, long answer) {
        check.same(what + " is BAD", answer, BAD);
    }

    private static void office() {
        ProphetAudit x = new ProphetAudit();
        check.same("2: none there were", x.office(), 0);
        for (int round = 0; round < 2; round++) {
            for (int i = 0; i < 4; i++) {
                check.same("2: they come from 0 again", x.one(i, i), i);
            }
            for (int n = 1; n <= 8; n++) {
                check.same("2: so do marks", x.mark(3, 0, 1, 1), n);
            }
            x.never(round, round);
            check.same("2: one law", x.count(1), 1);
            check.same("2: four there were", x.office(), 4);
            check.same("2: all worlds", x.worlds(), 4096);
        }
    }

    private static void never() {
        ProphetAudit x = new ProphetAudit();
        check.same("3: no law", x.count(1), 0);
        int laws = 0;
        for (int a = 0; a < 4; a++) {
            for (int b = 0; b < 4; b++) {
                laws++;
                check.same("3: unlike ones", x.never(a, b), laws);
                check.same("3: there already", x.never(a, b), laws);
            }
        }
        check.same("3: all 16", x.count(1), 16);
        check.same("3: no world", x.worlds(), 0);
        bad("3: a -1", x.never(-1, 0));
        bad("3: a 4", x.never(4, 0));
        bad("3: b -1", x.never(0, -1));
        bad("3: b 4", x.never(0, 4));
        check.same("3: four were", x.status(0), 4);
    }

    private static void one() {
        ProphetAudit x = new ProphetAudit();
        bad("4: kind -1", x.one(-1, 0));
        bad("4: kind 6", x.one(6, 0));
        bad("4: trips -1", x.one(0, -1));
        bad("4: trips 10", x.one(0, 10));
        check.same("4: the least", x.one(0, 0), 0);
        check.same("4: the greatest", x.one(5, 9), 1);
        check.same("4: a third", x.one(0, 9), 2);
        check.same("4: a fourth", x.one(5, 0), 3);
        check.same("4: a fifth", x.one(0, 0), FULL);
        check.same("4: four are there", x.count(0), 4);
        int[][] told = {{0, 0}, {5, 9}, {0, 9}, {5, 0}};
        for (int i = 0; i < 4; i++) {
            check.same("4: kind of " + i, x.of(i, 0), told[i][0]);
            check.same("4: trips of " + i, x.of(i, 1), told[i][1]);
        }
    }

    private static void typeAndClear() {
        ProphetAudit x = new ProphetAudit();
        check.same("6: an empty one", x.clear(), 0);
        bad("5: -1", x.type(-1));
        bad("5: 128", x.type(128));
        check.same("5: nothing came", x.count(5), 0);
        check.same("5: byte 0", x.type(0), 1);
        check.same("5: byte 127", x.type(127), 2);
        for (int n = 3; n <= 150; n++) {
            check.same("5: up to 150", x.type(' '), n);
        }
        check.same("5: a 151st", x.type(' '), FULL);
        check.same("5: 150 stay", x.count(5), 150);
        check.same("6: all of them", x.clear(), 150);
        check.same("6: none is left", x.clear(), 0);
        check.same("5: room again", x.type(' '), 1);
    }

    private static void mark() {
        ProphetAudit x = new ProphetAudit();
        bad("8: no inspector", x.mark(0, 0, 1, 0));
        for (int n = 0; n < 4; n++) {
            x.one(0, 0);
            check.same("8: the last one", x.mark(n, 5, 14, 2), n + 1);
            bad("8: one not there", x.mark(n + 1, 5, 14, 2));
        }
        bad("8: inspector -1", x.mark(-1, 0, 1, 0));
        bad("8: day -1", x.mark(0, -1, 1, 0));
        bad("8: day 6", x.mark(0, 6, 1, 0));
        bad("8: events 0", x.mark(0, 0, 0, 0));
        bad("8: events 15", x.mark(0, 0, 15, 0));
        bad("8: mark -1", x.mark(0, 0, 1, -1));
        bad("8: mark 3", x.mark(0, 0, 1, 3));
        check.same("8: the least of all", x.mark(0, 0, 1, 0), 5);
        check.same("8: trips", x.of(0, 1), 2);
    }

    private static void known() {
        ProphetAudit x = new ProphetAudit();
        for (int d = 0; d < 6; d++) {
            check.same("9: none was", x.known(d, d % 2 * 3), NONE);
            check.same("9: so many", x.count(3), d + 1);
        }
        check.same("9: one world", x.worlds(), 1);
        check.same("9: day -1", x.known(-1, 0), -10);
        check.same("9: day 6", x.known(6, 0), -10);
        check.same("9: event -2", x.known(0, -2), -10);
        check.same("9: event 4", x.known(0, 4), -10);
        check.same("9: as BAD", x.status(0), 4);
        for (int d = 0; d < 6; d++) {
            check.same("9: no more", x.known(d, NONE), d % 2 * 3);
            check.same("9: none was", x.known(d, NONE), NONE);
        }
        check.same("9: none", x.count(3), 0);
    }

    private static void of() {
        ProphetAudit x = new ProphetAudit();
        bad("11: none there", x.of(0, 0));
        x.one(5, 0);
        check.same("11: kind", x.of(0, 0), 5);
        check.same("11: trips", x.of(0, 1), 0);
        bad("11: -1", x.of(-1, 0));
        bad("11: 1", x.of(1, 0));
        bad("11: what -1", x.of(0, -1));
        bad("11: what 2", x.of(0, 2));
    }

    private static void worlds() {
        check.same("12: nothing told", new ProphetAudit().worlds(), 4096);
        check.same("12: all known", Check.told(ALL_KNOWN).worlds(), 1);
        check.same("12: none fits", Check.told(NONE_FITS).worlds(), 0);
        check.same("12: no world", Check.told(NO_WORLD).worlds(), 0);
    }

    private static void may() {
        ProphetAudit x = Check.told(ALL_KNOWN);
        int[] only = {1, 2, 4, 8, 1, 8};
        for (int d = 0; d < 6; d++) {
            check.same("13: all", new ProphetAudit().may(d), 15);
            check.same("13: one", x.may(d), only[d]);
            check.same("13: none", Check.told(NONE_FITS).may(d), 0);
            check.same("13: none", Check.told(NO_WORLD).may(d), 0);
        }
        bad("13: day -1", x.may(-1));
        bad("13: day 6", x.may(6));
    }

    private static void fraction(String what, ProphetAudit x, long above, long below) {
        check.same(what + ", above", x.part(0), above);
        check.same(what + ", below", x.part(1), below);
    }

    private static void chance() {
        ProphetAudit x = Check.told(ALL_KNOWN);
        check.same("14: the last event", x.chance(5, 3), 1);
        fraction("14: for sure", x, 1, 1);
        check.same("14: the first event", x.chance(5, 0), 1);
        fraction("14: not at all", x, 0, 1);
        x.chance(0, 0);
        bad("14: day -1", x.chance(-1, 0));
        bad("14: day 6", x.chance(6, 0));
        bad("14: event -1", x.chance(0, -1));
        bad("14: event 4", x.chance(0, 4));
        x.mark(0, 0, 1, 0);
        check.same("14: none fits", x.chance(0, 0), NO);
        fraction("14: it stays", x, 1, 1);
        check.same("14: no world", Check.told(NO_WORLD).chance(0, 0), NO);
        ProphetAudit y = Check.told("office;never 0 0;");
        y.chance(0, 0);
        // 3105 rows of six have no 0 0; of those with 0 first there are 3 times 216 (rows of four).
        fraction("14: 648 of 3105", y, 24, 115);
    }

    private static void must() {
        check.same("15: no day", new ProphetAudit().must(), 0);
        check.same("15: every day", Check.told(ALL_KNOWN).must(), 63);
        check.same("15: none fits: all", Check.told(NONE_FITS).must(), 63);
        check.same("15: no world: all", Check.told(NO_WORLD).must(), 63);
        for (int d = 0; d < 6; d++) {
            ProphetAudit x = new ProphetAudit();
            x.known(d, 0);
            check.same("15: day " + d, x.must(), 1 << d);
        }
    }

    private static void ruled() {
        ProphetAudit x = Check.told(ALL_KNOWN);
        int[] others = {14, 13, 11, 7, 14, 7};
        for (int d = 0; d < 6; d++) {
            check.same("16: nothing", new ProphetAudit().ruled(d), 0);
            check.same("16: all but one", x.ruled(d), others[d]);
            check.same("16: marks are not looked at", Check.told(NONE_FITS).ruled(d), 0);
            check.same("16: no world: all", Check.told(NO_WORLD).ruled(d), 15);
        }
        bad("16: day -1", x.ruled(-1));
        bad("16: day 6", x.ruled(6));
    }

    private static void gives() {
        ProphetAudit x = Check.told(ALL_KNOWN);
        check.same("17: the last day, event 3", x.gives(0, 5, 8, 1), 1);
        check.same("17: the other mark", x.gives(0, 5, 8, 0), 0);
        check.same("17: no mark 2 of a plain one", x.gives(0, 5, 14, 2), 0);
        check.same("17: the first day", x.gives(0, 0, 14, 0), 1);
        for (int m = 0; m < 3; m++) {
            check.same("17: none fits", Check.told(NONE_FITS).gives(0, 5, 1, m), 0);
            check.same("17: no world", Check.told(NO_WORLD).gives(0, 0, 1, m), 0);
        }
        bad("17: inspector -1", x.gives(-1, 0, 1, 0));
        bad("17: inspector 1", x.gives(1, 0, 1, 0));
        bad("17: day -1", x.gives(0, -1, 1, 0));
        bad("17: day 6", x.gives(0, 6, 1, 0));
        bad("17: events 0", x.gives(0, 0, 0, 0));
        bad("17: events 15", x.gives(0, 0, 15, 0));
        bad("17: mark -1", x.gives(0, 0, 1, -1));
        bad("17: mark 3", x.gives(0, 0, 1, 3));
        bad("17: no inspector", new ProphetAudit().gives(0, 0, 1, 0));
    }

    private static void next() {
        String fiveKnown = "office;one 0 0;known 0 0;known 1 0;known 2 0;known 3 0;known 4 0;";
        check.same("18: one world: the least of all", Check.told(ALL_KNOWN).next(0), 1);
        check.same("18: the last day", Check.told(fiveKnown).next(0), 83);
        check.same("18: its last two events", Check.told(fiveKnown + "mark 0 5 1 2 3;").next(0), 84);
        check.same("18: its first two", Check.told(fiveKnown + "mark 0 5 1 0 1;").next(0), 81);
        check.same("18: none fits", Check.told(NONE_FITS).next(0), NONE);
        check.same("18: no world", Check.told(NO_WORLD).next(0), NONE);
        ProphetAudit x = new ProphetAudit();
        bad("18: no inspector", x.next(0));
        x.one(0, 0);
        check.same("18: all worlds", x.next(0), 3);
        bad("18: -1", x.next(-1));
        bad("18: 1", x.next(1));
    }

    private static void surely(String what, ProphetAudit x, int d, int sayings, int first) {
        check.same("19: " + what, x.sure(0, d, 0), sayings);
        check.same("19: first, " + what, x.sure(0, d, 1), first);
    }

    private static void sure() {
        ProphetAudit x = Check.told(ALL_KNOWN);
        for (int d = 0; d < 6; d++) {
            surely("but one", x, d, 0, 0);
            surely("none fits", Check.told(NONE_FITS), d, NONE, NONE);
            surely("no world", Check.told(NO_WORLD), d, NONE, NONE);
        }
        surely("all four", Check.told("office;one 0 9;"), 5, 2, 3);
        surely("three, without 0", Check.told("office;one 0 9;mark 0 5 0 0;"), 5, 2, 2);
        surely("three, without 3", Check.told("office;one 0 9;mark 0 5 0 3;"), 5, 2, 1);
        surely("the last two", Check.told("office;one 0 9;mark 0 5 1 2 3;"), 5, 1, 4);
        surely("the first two", Check.told("office;one 0 9;mark 0 5 1 0 1;"), 5, 1, 1);
        bad("19: inspector -1", x.sure(-1, 0, 0));
        bad("19: inspector 1", x.sure(1, 0, 0));
        bad("19: day -1", x.sure(0, -1, 0));
        bad("19: day 6", x.sure(0, 6, 0));
        bad("19: what -1", x.sure(0, 0, -1));
        bad("19: what 2", x.sure(0, 0, 2));
        bad("19: no inspector", new ProphetAudit().sure(0, 0, 0));
        surely("a brown one on day 3", Check.told("office;one 1 0;"), 3, 2, 3);
        surely("a brown one on day 4: it can not be", Check.told("office;one 1 0;"), 4, NONE, NONE);
        surely("an old one on day 5: it can not be", Check.told("office;one 2 0;"), 5, NONE, NONE);
    }

    /** Trips go on by each saying: behind the third trip a tired one tells nothing. */
    private static void sureByATiredOne() {
        int[] sayings = {2, 2, NONE, NONE};
        int[] byTwo = {1, 1, 1, NONE};
        for (int trips = 0; trips < 4; trips++) {
            ProphetAudit x = new ProphetAudit();
            x.one(4, trips);
            x.one(0, 0);
            surely(trips + " trips, all four", x, 4, sayings[trips], sayings[trips] == 2 ? 3 : NONE);
            x.mark(1, 4, 10, 1);
            surely(trips + " trips, two", x, 4, byTwo[trips], byTwo[trips] == 1 ? 2 : NONE);
            x.mark(1, 4, 8, 1);
            surely(trips + " trips, one", x, 4, 0, 0);
        }
    }

    private static void wrong() {
        check.same("20: no mark", new ProphetAudit().wrong(), 0);
        check.same("20: no mark, one world", Check.told(ALL_KNOWN).wrong(), 0);
        check.same("20: of like ones the least", Check.told(NONE_FITS).wrong(), 1);
        check.same("20: no world", Check.told(NO_WORLD).wrong(), NONE);
        String begun = "office;one 0 0;";
        check.same("20: all eight", Check.told(begun + "mark 0 5 2 3;".repeat(8)).wrong(), 255);
        check.same("20: the eighth", Check.told(begun + "mark 0 5 1 3;".repeat(7) + "mark 0 5 0 3;").wrong(),
                128);
        check.same("20: the first", Check.told(begun + "mark 0 5 0 3;" + "mark 0 5 1 3;".repeat(7)).wrong(),
                1);
        check.same("20: four and four", Check.told(begun + "mark 0 5 0 3;mark 0 5 1 3;".repeat(4)).wrong(),
                1 + 4 + 16 + 64);
    }

    private static void is() {
        ProphetAudit x = new ProphetAudit();
        bad("21: no inspector", x.is(0));
        x.one(5, 9);
        check.same("21: no mark: all", x.is(0), 63);
        bad("21: -1", x.is(-1));
        bad("21: 1", x.is(1));
        x.mark(0, 0, 7, 0);
        check.same("21: a sunny one can not have said so", x.is(0), 1 + 2 + 4 + 8);
        x.undo();
        x.mark(0, 3, 7, 1);
        check.same("21: an old one can not have said so", x.is(0), 1 + 2 + 8 + 32);
        x.undo();
        x.mark(0, 5, 1, 0);
        check.same("21: nor a brown one this", x.is(0), 1 + 8 + 32);
        x.undo();
        x.mark(0, 4, 1, 2);
        check.same("21: a tired one alone", x.is(0), 16);
        x.mark(0, 4, 1, 1);
        check.same("21: none", x.is(0), 0);
        check.same("21: no world: none", Check.told(NO_WORLD).is(0), 0);
    }

    private static void tells() {
        check.same("22: no mark", new ProphetAudit().tells(), 0);
        check.same("22: no world", Check.told(NO_WORLD).tells(), 0);
        String eight = "office;one 0 0;mark 0 0 1 0 1;mark 0 0 1 0 2;mark 0 1 1 0;mark 0 2 1 0;"
                + "mark 0 3 1 0;mark 0 4 1 0;mark 0 5 1 0 1;mark 0 5 1 1 2;";
        check.same("22: all eight", Check.told(eight).tells(), 255);
        check.same("22: eight alike", Check.told("office;one 0 0;" + "mark 0 5 1 3;".repeat(8)).tells(), 0);
        check.same("22: either, if none fits", Check.told(NONE_FITS).tells(), 3);
    }

    private static void bets() {
        ProphetAudit x = Check.told(NONE_FITS);
        check.same("23: none fits: all pairs", x.bets(5, NONE), 16);
        for (int k = 0; k < 16; k++) {
            check.same("23: the k-th", x.bets(5, k), k);
        }
        check.same("23: not so many", x.bets(5, 16), -5);
        check.same("23: nor so many", x.bets(5, Integer.MAX_VALUE), -5);
        check.same("23: k -2", x.bets(0, -2), -10);
        check.same("23: k least", x.bets(0, Integer.MIN_VALUE), -10);
        check.same("23: day -1", x.bets(-1, NONE), -10);
        check.same("23: day 6", x.bets(6, 0), -10);
        check.same("23: as BAD", x.status(0), 4);
        x = Check.told("office;known 5 3;");
        check.same("23: one pair", x.bets(5, NONE), 1);
        check.same("23: the 0-th", x.bets(5, 0), 15);
        check.same("23: not two", x.bets(5, 1), -5);
    }

    /** Three worlds have event 0 on day 0, one has event 1: half of three is one. */
    private static void betsByHalf() {
        ProphetAudit x = Check.told("office;one 0 0;mark 0 0 1 0 1;known 2 1;known 3 1;known 4 1;"
                + "known 5 1;never 0 3;never 1 0;never 1 2;never 1 3;");
        check.same("23: four worlds", x.worlds(), 4);
        x.chance(0, 0);
        fraction("23: three of them", x, 3, 4);
        check.same("23: three pairs", x.bets(0, NONE), 3);
        check.same("23: both on 0", x.bets(0, 0), 0);
        check.same("23: 0 and 1", x.bets(0, 1), 1);
        check.same("23: 1 and 0", x.bets(0, 2), 4);
        check.same("23: no more", x.bets(0, 3), -5);
    }

    private static void mean(String text, int c, long above, long below) {
        ProphetAudit x = Check.told(text);
        check.same("24: " + text, x.journeys(c), 1);
        fraction("24: by " + c + " " + text, x, above, below);
    }

    private static void journeys() {
        String eight = "office;one 0 0;" + "mark 0 5 2 3;".repeat(8);
        mean(eight, 0, 0, 1);
        mean(eight, 1, 16, 390625);
        mean(eight, 9, 688747536, 390625);
        mean(eight, 10, 4096, 1);
        mean("office;", 0, 4096, 1);
        mean("office;", 10, 4096, 1);
        mean(ALL_KNOWN, 7, 1, 1);
        mean(NONE_FITS, 0, 0, 1);
        mean(NO_WORLD, 0, 0, 1);
        mean(NO_WORLD, 10, 0, 1);
        ProphetAudit x = new ProphetAudit();
        bad("24: -1", x.journeys(-1));
        bad("24: 11", x.journeys(11));
        fraction("24: it stays", x, 0, 1);
    }

    private static void years() {
        ProphetAudit x = new ProphetAudit();
        for (int seed : new int[] {0, 999999}) {
            check.same("25: no year", x.years(seed, 0), 0);
            check.same("25: one year", x.years(seed, 1), 1);
            check.same("25: all years", x.years(seed, 60), 60);
            check.same("25: none fits", Check.told(NONE_FITS).years(seed, 60), 0);
            check.same("25: no world", Check.told(NO_WORLD).years(seed, 60), 0);
        }
        bad("25: seed -1", x.years(-1, 0));
        bad("25: seed 1000000", x.years(1000000, 0));
        bad("25: n -1", x.years(0, -1));
        bad("25: n 61", x.years(0, 61));
    }

    /** The world that a seed draws in a year; numbers of any size, so that nothing wraps. */
    private static int[] drawn(int seed, int year) {
        BigInteger x = BigInteger.valueOf(seed);
        int[] events = new int[6];
        for (int n = 0; n < 6 * year; n++) {
            x = x.multiply(BigInteger.valueOf(1103515245)).add(BigInteger.valueOf(12345))
                    .mod(BigInteger.valueOf(2147483648L));
            events[n % 6] = x.divide(BigInteger.valueOf(65536)).mod(BigInteger.valueOf(4)).intValue();
        }
        return events;
    }

    private static void yearsOfTheFirstAndTheLast() {
        for (int seed : new int[] {0, 1, 65535, 65536, 999998, 999999}) {
            for (int year : new int[] {1, 2, 59, 60}) {
                ProphetAudit x = new ProphetAudit();
                int[] events = drawn(seed, year);
                for (int d = 0; d < 6; d++) {
                    x.known(d, events[d]);
                }
                check.same("25: year " + year + " of seed " + seed,
                        x.years(seed, year) - x.years(seed, year - 1), 1);
            }
        }
    }

    private static void part() {
        ProphetAudit x = new ProphetAudit();
        fraction("26: at first", x, 0, 1);
        bad("26: -1", x.part(-1));
        bad("26: 2", x.part(2));
        check.same("26: two were", x.status(0), 2);
    }

    private static void imageAndFrom() {
        ProphetAudit x = new ProphetAudit();
        bad("27: -1", x.image(-1));
        bad("27: 2", x.image(2));
        bad("28: -1", x.from(-1));
        bad("28: 2", x.from(2));
        check.same("28: none was kept", x.from(0), NO);
        check.same("28: none was kept", x.from(1), NO);
        check.same("27: 0", x.image(0), 1);
        check.same("28: the other was not kept", x.from(1), NO);
        check.same("27: 1", x.image(1), 1);
        check.same("28: 0", x.from(0), 1);
        check.same("28: 1", x.from(1), 1);
        check.same("28: NO three times", x.status(1), 3);
    }

    private static void status() {
        ProphetAudit x = new ProphetAudit();
        for (int k = 0; k < 3; k++) {
            check.same("29: none", x.status(k), 0);
        }
        check.same("29: -1", x.status(-1), -1);
        check.same("29: 3", x.status(3), -1);
        check.same("29: as BAD", x.status(0), 2);
        x.undo();
        check.same("29: NO", x.status(1), 1);
        for (int n = 0; n < 151; n++) {
            x.type(0);
        }
        check.same("29: FULL", x.status(2), 1);
        x.office();
        x.image(0);
        x.from(0);
        check.same("29: it goes on", x.status(0) + x.status(1) + x.status(2), 4);
    }

    private static void count() {
        ProphetAudit x = new ProphetAudit();
        bad("30: -1", x.count(-1));
        bad("30: 6", x.count(6));
        for (int n = 0; n < 16; n++) {
            x.never(n / 4, n % 4);
            x.one(0, 0);
        }
        for (int n = 0; n < 9; n++) {
            x.known(n % 6, 0);
            x.mark(0, 0, 1, 0);
        }
        for (int n = 0; n < 151; n++) {
            x.type(0);
        }
        int[] most = {4, 16, 8, 6, 8, 150};
        for (int k = 0; k < 6; k++) {
            check.same("30: none " + k, new ProphetAudit().count(k), 0);
            check.same("30: all there may be " + k, x.count(k), most[k]);
        }
    }

    /** h by numbers of any size, cut to 64 bits in the end: it wraps around many times. */
    private static long hash(int... values) {
        BigInteger h = BigInteger.valueOf(1291);
        for (int v : values) {
            h = h.multiply(BigInteger.valueOf(31)).add(BigInteger.valueOf(v));
        }
        return h.longValue();
    }

    private static void digest() {
        check.same("31: nothing", new ProphetAudit().digest(), hash(0, 0, 0, 0, 0, 0,
                0, 0, 0, 0, 0, 0, 0, 0, 0, 0, 0, 0, 0, 0, 0, 0, -1, -1, -1, -1, -1, -1, 0, 1));
        ProphetAudit x = new ProphetAudit();
        for (int n = 0; n < 16; n++) {
            x.never(n / 4, n % 4);
        }
        for (int i = 0; i < 4; i++) {
            x.one(5 - i, 9 - i);
        }
        for (int n = 0; n < 8; n++) {
            x.mark(n / 2, 5, 14, 2);
        }
        x.known(0, 3);
        check.same("31: all there may be", x.digest(), hash(4, 16, 8, 1, 8, 0,
                1, 1, 1, 1, 1, 1, 1, 1, 1, 1, 1, 1, 1, 1, 1, 1, 3, -1, -1, -1, -1, -1,
                5, 11, 4, 10, 3, 9, 2, 8,
                0, 5, 14, 2, 9, 0, 5, 14, 2, 10, 1, 5, 14, 2, 8, 1, 5, 14, 2, 9,
                2, 5, 14, 2, 7, 2, 5, 14, 2, 8, 3, 5, 14, 2, 6, 3, 5, 14, 2, 7, 0, 1));
    }
}
