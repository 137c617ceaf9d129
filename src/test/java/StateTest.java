/** Promises 26 to 31: part, image, from, status, count, digest. */
public final class StateTest {
    private static final Check check = new Check();

    public static void main(String[] args) {
        part();
        image();
        from();
        fromKeepsWhatMayBeUndone();
        fromBringsAllBack();
        status();
        count();
        digest();
        check.end();
    }

    private static void part() {
        ProphetAudit x = new ProphetAudit();
        check.same("26: above at first", x.part(0), 0);
        check.same("26: below at first", x.part(1), 1);
        x.chance(0, 0);
        check.same("26: above", x.part(0), 1);
        check.same("26: below", x.part(1), 4);
        check.same("26: BAD", x.part(2), ProphetAudit.BAD);
        check.same("26: BAD", x.part(-1), ProphetAudit.BAD);
        check.same("26: status", x.status(0), 2);
    }

    private static void image() {
        ProphetAudit x = new ProphetAudit();
        check.same("27: BAD", x.image(2), ProphetAudit.BAD);
        check.same("27: BAD", x.image(-1), ProphetAudit.BAD);
        check.same("27: status", x.status(0), 2);
        x.one(0, 0);
        check.same("27: 0", x.image(0), 1);
        x.one(1, 1);
        check.same("27: 1", x.image(1), 1);
        x.office();
        check.same("27: from 0", x.from(0), 1);
        check.same("27: one", x.count(0), 1);
        check.same("27: from 1", x.from(1), 1);
        check.same("27: two", x.count(0), 2);
        x.one(2, 2);
        check.same("27: 0 again", x.image(0), 1);
        x.office();
        x.from(0);
        check.same("27: the later one is kept", x.count(0), 3);
    }

    private static void from() {
        ProphetAudit x = Check.told("office;never 1 2;known 3 1;one 4 5;one 0 0;mark 1 0 1 0;");
        check.same("28: BAD", x.from(2), ProphetAudit.BAD);
        check.same("28: BAD", x.from(-1), ProphetAudit.BAD);
        check.same("28: NO", x.from(0), ProphetAudit.NO);
        check.same("28: NO", x.from(1), ProphetAudit.NO);
        check.same("28: status BAD", x.status(0), 2);
        check.same("28: status NO", x.status(1), 2);
        x.image(1);
        check.same("28: the other is not kept", x.from(0), ProphetAudit.NO);
        long kept = x.digest();
        x.never(0, 0);
        x.known(0, 2);
        x.one(3, 3);
        x.mark(0, 2, 5, 1);
        check.same("28: 1", x.from(1), 1);
        check.same("28: all as kept", x.digest(), kept);
        x.mark(1, 2, 5, 1);
        x.known(3, 0);
        x.chance(3, 0);
        x.clear();
        x.from(1);
        check.same("28: the image is not changed by what comes behind it", x.count(2), 1);
        check.same("28: known as kept", x.known(3, 1), 1);
        check.same("28: trips as kept", x.of(1, 1), 1);
        check.same("28: the fraction is not kept", x.part(0), 1);
        check.same("28: the text is not kept", x.count(5), 0);
        check.same("28: the status is not kept", x.status(1), 3);
        x.office();
        check.same("28: again", x.from(1), 1);
        check.same("28: again", x.count(0), 2);
    }

    private static void fromKeepsWhatMayBeUndone() {
        ProphetAudit x = new ProphetAudit();
        x.one(0, 0);
        x.mark(0, 0, 1, 1);
        x.known(1, 1);
        x.image(0);
        x.undo();
        x.undo();
        check.same("28: nothing to undo", x.undo(), ProphetAudit.NO);
        x.from(0);
        check.same("28: two to undo", x.count(4), 2);
        check.same("28: undo", x.undo(), 1);
        check.same("28: known no more", x.count(3), 0);
        check.same("28: undo", x.undo(), 0);
        check.same("28: trips", x.of(0, 1), 0);
        x.from(0);
        check.same("28: the image is not undone", x.count(2), 1);
    }

    private static void fromBringsAllBack() {
        ProphetAudit x = new ProphetAudit();
        x.never(3, 0);
        x.one(2, 4);
        x.one(5, 6);
        x.mark(1, 2, 9, 1);
        x.known(4, 1);
        x.known(4, 2);
        x.mark(0, 3, 5, 2);
        x.image(0);
        long kept = x.digest();
        x.office();
        x.never(0, 3);
        x.one(0, 0);
        x.one(1, 1);
        x.known(1, 3);
        x.mark(0, 0, 1, 0);
        x.mark(1, 5, 14, 0);
        x.known(2, 0);
        x.known(4, 0);
        x.from(0);
        check.same("28: all is back", x.digest(), kept);
        check.same("28: undo", x.undo(), 1);
        check.same("28: trips of the inspector of that mark", x.of(0, 1), 4);
        check.same("28: undo", x.undo(), 1);
        check.same("28: known as ahead of it", x.known(4, 1), 1);
        x.undo();
        check.same("28: undo", x.undo(), 1);
        check.same("28: none was known", x.count(3), 0);
        check.same("28: undo", x.undo(), 0);
        check.same("28: trips of the other", x.of(1, 1), 6);
        check.same("28: no more", x.undo(), ProphetAudit.NO);
    }

    private static void status() {
        ProphetAudit x = new ProphetAudit();
        x.may(6);
        x.known(0, 9);
        x.bets(0, -2);
        x.undo();
        x.from(0);
        for (int n = 0; n < 5; n++) {
            x.one(0, 0);
        }
        check.same("29: BAD", x.status(0), 3);
        check.same("29: NO", x.status(1), 2);
        check.same("29: FULL", x.status(2), 1);
        check.same("29: another", x.status(3), -1);
        check.same("29: another", x.status(-1), -1);
        check.same("29: they count as BAD", x.status(0), 5);
        x.bets(0, 99);
        x.read();
        x.wrong();
        x.known(0, ProphetAudit.NONE);
        check.same("29: other answers below 0 do not count", x.status(0) + x.status(1) + x.status(2), 8);
    }

    private static void count() {
        ProphetAudit x = new ProphetAudit();
        Check.type(x, "office");
        x.never(0, 1);
        x.never(0, 1);
        x.never(2, 1);
        x.one(0, 0);
        for (int n = 0; n < 4; n++) {
            x.mark(0, 0, 1, 1);
        }
        x.known(0, 1);
        x.known(0, 2);
        x.known(5, 2);
        int[] want = {1, 2, 4, 2, 7, 6};
        for (int what = 0; what <= 5; what++) {
            check.same("30: " + what, x.count(what), want[what]);
        }
        check.same("30: BAD", x.count(6), ProphetAudit.BAD);
        check.same("30: BAD", x.count(-1), ProphetAudit.BAD);
        check.same("30: status", x.status(0), 2);
    }

    private static long hash(long... values) {
        long h = 1291;
        for (long v : values) {
            h = 31 * h + v;
        }
        return h;
    }

    private static void digest() {
        check.same("31: at first", new ProphetAudit().digest(), hash(0, 0, 0, 0, 0, 0,
                0, 0, 0, 0, 0, 0, 0, 0, 0, 0, 0, 0, 0, 0, 0, 0, -1, -1, -1, -1, -1, -1, 0, 1));
        ProphetAudit x = new ProphetAudit();
        x.never(0, 1);
        x.never(2, 3);
        x.one(4, 1);
        x.one(3, 8);
        x.type(65);
        x.mark(1, 0, 6, 1);
        x.mark(0, 2, 3, 1);
        x.known(1, 0);
        x.known(5, 3);
        x.journeys(0);
        x.journeys(99);
        long worlds = x.worlds();
        check.same("31: all", x.digest(), hash(2, 2, 2, 2, 4, 1,
                0, 1, 0, 0, 0, 0, 0, 0, 0, 0, 0, 1, 0, 0, 0, 0, -1, 0, -1, -1, -1, 3,
                4, 2, 3, 9, 1, 0, 6, 1, 8, 0, 2, 3, 1, 1, worlds, 1));
        check.same("31: it is no refusal", x.status(0), 1);
    }
}
