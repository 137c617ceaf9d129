import java.util.List;

/**
 * Every call of the face that is one of numbers: what it takes, from the least to the greatest
 * that may be, what it answers if one is not as told, and how to make it of the class and of
 * the Model.
 */
final class Calls {

    /** A call with its numbers, of either side. */
    interface Made<T> {
        long by(T of, int[] n);
    }

    /** The range of one number; a greatest of MAX_VALUE has none above it. */
    record Range(int least, int greatest) { }

    record Call(String name, long refused, boolean asks, List<Range> ranges,
            Made<ProphetAudit> made, Made<Model> due) {

        /** The numbers at and just beyond the ends of a range, and the farthest there are. */
        int[] edges(int which) {
            Range r = ranges.get(which);
            return new int[] {Integer.MIN_VALUE, r.least() - 1, r.least(), r.greatest(),
                r.greatest() == Integer.MAX_VALUE ? r.greatest() : r.greatest() + 1,
                Integer.MAX_VALUE};
        }

        boolean mayBe(int[] n) {
            for (int k = 0; k < n.length; k++) {
                if (n[k] < ranges.get(k).least() || n[k] > ranges.get(k).greatest()) {
                    return false;
                }
            }
            return true;
        }
    }

    private static final Range DAY = new Range(0, 5), EVENT = new Range(0, 3);
    private static final Range EVENTS = new Range(1, 14), MARK = new Range(0, 2);
    private static final Range EITHER = new Range(0, 1);
    private static final long BAD = ProphetAudit.BAD;

    private Calls() { }

    private static Call changes(String name, Made<ProphetAudit> made, Made<Model> due, Range... r) {
        return new Call(name, BAD, false, List.of(r), made, due);
    }

    private static Call asks(String name, Made<ProphetAudit> made, Made<Model> due, Range... r) {
        return new Call(name, BAD, true, List.of(r), made, due);
    }

    /** All calls, for an object that has so many inspectors. */
    static List<Call> all(int inspectors) {
        Range who = new Range(0, inspectors - 1);
        return List.of(
            changes("office", (x, n) -> x.office(), (y, n) -> y.office()),
            changes("never", (x, n) -> x.never(n[0], n[1]), (y, n) -> y.never(n[0], n[1]),
                    EVENT, EVENT),
            changes("one", (x, n) -> x.one(n[0], n[1]), (y, n) -> y.one(n[0], n[1]),
                    new Range(0, 5), new Range(0, 9)),
            changes("type", (x, n) -> x.type(n[0]), (y, n) -> y.type(n[0]), new Range(0, 127)),
            changes("clear", (x, n) -> x.clear(), (y, n) -> y.clear()),
            changes("read", (x, n) -> x.read(), (y, n) -> y.read()),
            changes("mark", (x, n) -> x.mark(n[0], n[1], n[2], n[3]),
                    (y, n) -> y.mark(n[0], n[1], n[2], n[3]), who, DAY, EVENTS, MARK),
            new Call("known", -10, false, List.of(DAY, new Range(-1, 3)),
                    (x, n) -> x.known(n[0], n[1]), (y, n) -> y.known(n[0], n[1])),
            changes("undo", (x, n) -> x.undo(), (y, n) -> y.undo()),
            asks("of", (x, n) -> x.of(n[0], n[1]), (y, n) -> y.of(n[0], n[1]), who, EITHER),
            asks("worlds", (x, n) -> x.worlds(), (y, n) -> y.worlds()),
            asks("may", (x, n) -> x.may(n[0]), (y, n) -> y.may(n[0]), DAY),
            changes("chance", (x, n) -> x.chance(n[0], n[1]), (y, n) -> y.chance(n[0], n[1]),
                    DAY, EVENT),
            asks("must", (x, n) -> x.must(), (y, n) -> y.must()),
            asks("ruled", (x, n) -> x.ruled(n[0]), (y, n) -> y.ruled(n[0]), DAY),
            asks("gives", (x, n) -> x.gives(n[0], n[1], n[2], n[3]),
                    (y, n) -> y.gives(n[0], n[1], n[2], n[3]), who, DAY, EVENTS, MARK),
            asks("next", (x, n) -> x.next(n[0]), (y, n) -> y.next(n[0]), who),
            asks("sure", (x, n) -> x.sure(n[0], n[1], n[2]), (y, n) -> y.sure(n[0], n[1], n[2]),
                    who, DAY, EITHER),
            asks("wrong", (x, n) -> x.wrong(), (y, n) -> y.wrong()),
            asks("is", (x, n) -> x.is(n[0]), (y, n) -> y.is(n[0]), who),
            asks("tells", (x, n) -> x.tells(), (y, n) -> y.tells()),
            new Call("bets", -10, true, List.of(DAY, new Range(-1, Integer.MAX_VALUE)),
                    (x, n) -> x.bets(n[0], n[1]), (y, n) -> y.bets(n[0], n[1])),
            changes("journeys", (x, n) -> x.journeys(n[0]), (y, n) -> y.journeys(n[0]),
                    new Range(0, 10)),
            asks("years", (x, n) -> x.years(n[0], n[1]), (y, n) -> y.years(n[0], n[1]),
                    new Range(0, 999999), new Range(0, 60)),
            asks("part", (x, n) -> x.part(n[0]), (y, n) -> y.part(n[0]), EITHER),
            changes("image", (x, n) -> x.image(n[0]), (y, n) -> y.image(n[0]), EITHER),
            changes("from", (x, n) -> x.from(n[0]), (y, n) -> y.from(n[0]), EITHER),
            new Call("status", -1, true, List.of(new Range(0, 2)),
                    (x, n) -> x.status(n[0]), (y, n) -> y.status(n[0])),
            asks("count", (x, n) -> x.count(n[0]), (y, n) -> y.count(n[0]), new Range(0, 5)),
            asks("digest", (x, n) -> x.digest(), (y, n) -> y.digest()));
    }
}
