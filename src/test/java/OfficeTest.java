/** Promises 1 to 7: a new object, office, never, one, type, clear, read. */
public final class OfficeTest {
    private static final Check check = new Check();

    public static void main(String[] args) {
        newObject();
        office();
        never();
        one();
        type();
        clear();
        readGoodTexts();
        readFaults();
        readChangesAllButSome();
        readFaultChangesNothing();
        check.end();
    }

    private static void newObject() {
        ProphetAudit x = new ProphetAudit();
        for (int what = 0; what <= 5; what++) {
            check.same("1: count " + what, x.count(what), 0);
        }
        for (int what = 0; what <= 2; what++) {
            check.same("1: status " + what, x.status(what), 0);
        }
        check.same("1: above", x.part(0), 0);
        check.same("1: below", x.part(1), 1);
        check.same("1: worlds", x.worlds(), 4096);
        check.same("1: undo", x.undo(), ProphetAudit.NO);
        check.same("1: image 0", x.from(0), ProphetAudit.NO);
        check.same("1: image 1", x.from(1), ProphetAudit.NO);
        for (int d = 0; d < 6; d++) {
            check.same("1: known", x.known(d, 0), ProphetAudit.NONE);
        }
    }

    private static void office() {
        ProphetAudit x = Check.told("office;never 1 2;known 3 1;one 4 5;one 0 0;mark 1 0 1 0;");
        x.chance(0, 0);
        x.image(1);
        x.known(0, 0);
        x.undo();
        x.known(0, 0);
        x.may(9);
        check.same("2: inspectors there were", x.office(), 2);
        for (int what = 0; what <= 4; what++) {
            check.same("2: count " + what, x.count(what), 0);
        }
        check.same("2: the text stays", x.count(5), 56);
        check.same("2: the fraction stays", x.part(0), 1);
        check.same("2: the status stays", x.status(0), 1);
        check.same("2: nothing to undo", x.undo(), ProphetAudit.NO);
        check.same("2: worlds", x.worlds(), 4096);
        check.same("2: none there", x.office(), 0);
        check.same("2: the image stays", x.from(1), 1);
        check.same("2: as it was kept", x.count(0), 2);
        check.same("2: marks as kept", x.count(2), 1);
    }

    private static void never() {
        ProphetAudit x = new ProphetAudit();
        check.same("3: first", x.never(0, 1), 1);
        check.same("3: the same again", x.never(0, 1), 1);
        check.same("3: the other way", x.never(1, 0), 2);
        check.same("3: worlds", x.worlds(), worldsBy(0, 1, 1, 0));
        int[][] bad = {{-1, 0}, {4, 0}, {0, -1}, {0, 4}, {Integer.MIN_VALUE, Integer.MAX_VALUE}};
        for (int[] b : bad) {
            check.same("3: BAD", x.never(b[0], b[1]), ProphetAudit.BAD);
        }
        check.same("3: five were BAD", x.status(0), 5);
        check.same("3: still two", x.count(1), 2);
        x.known(0, 0);
        x.never(7, 7);
        check.same("3: a refused one leaves what may be undone", x.count(4), 1);
        x.never(0, 1);
        check.same("3: one that was there already does not", x.count(4), 0);
        x.known(0, 0);
        x.never(2, 2);
        check.same("3: a new one does not", x.undo(), ProphetAudit.NO);
        for (int n = 0; n < 16; n++) {
            x.never(n / 4, n % 4);
        }
        check.same("3: all", x.never(3, 3), 16);
    }

    /** How many of the 4096 rows of six have neither a-b nor c-d in a row. */
    private static int worldsBy(int a, int b, int c, int d) {
        int found = 0;
        for (int w = 0; w < 4096; w++) {
            boolean keeps = true;
            for (int day = 0; day < 5; day++) {
                int first = w >> 2 * day & 3;
                int then = w >> 2 * day + 2 & 3;
                keeps &= !(first == a && then == b) && !(first == c && then == d);
            }
            found += keeps ? 1 : 0;
        }
        return found;
    }

    private static void one() {
        ProphetAudit x = new ProphetAudit();
        check.same("4: BAD kind", x.one(6, 0), ProphetAudit.BAD);
        check.same("4: BAD kind", x.one(-1, 0), ProphetAudit.BAD);
        check.same("4: BAD trips", x.one(0, 10), ProphetAudit.BAD);
        check.same("4: BAD trips", x.one(0, -1), ProphetAudit.BAD);
        check.same("4: none came", x.count(0), 0);
        check.same("4: 0", x.one(5, 9), 0);
        check.same("4: 1", x.one(0, 0), 1);
        check.same("4: 2", x.one(4, 3), 2);
        x.known(0, 0);
        check.same("4: 3", x.one(2, 7), 3);
        check.same("4: nothing may be undone behind it", x.undo(), ProphetAudit.NO);
        x.known(0, 0);
        check.same("4: FULL", x.one(1, 1), ProphetAudit.FULL);
        check.same("4: BAD comes ahead of FULL", x.one(6, 1), ProphetAudit.BAD);
        check.same("4: a refused one leaves what may be undone", x.count(4), 1);
        check.same("4: status BAD", x.status(0), 5);
        check.same("4: status FULL", x.status(2), 1);
        check.same("4: kind", x.of(0, 0), 5);
        check.same("4: trips", x.of(0, 1), 9);
        check.same("4: kind", x.of(3, 0), 2);
        check.same("4: trips", x.of(3, 1), 7);
    }

    private static void type() {
        ProphetAudit x = new ProphetAudit();
        check.same("5: BAD", x.type(-1), ProphetAudit.BAD);
        check.same("5: BAD", x.type(128), ProphetAudit.BAD);
        for (int n = 1; n <= 150; n++) {
            check.same("5: bytes", x.type(n % 128), n);
        }
        check.same("5: FULL", x.type(0), ProphetAudit.FULL);
        check.same("5: BAD comes ahead of FULL", x.type(128), ProphetAudit.BAD);
        check.same("5: count", x.count(5), 150);
        check.same("5: status BAD", x.status(0), 3);
        check.same("5: status FULL", x.status(2), 1);
    }

    private static void clear() {
        ProphetAudit x = new ProphetAudit();
        check.same("6: none", x.clear(), 0);
        Check.type(x, "office;one 0 0;");
        x.read();
        check.same("6: had", x.clear(), 15);
        check.same("6: has", x.count(5), 0);
        check.same("6: the office stays", x.count(0), 1);
        check.same("6: an empty text", x.read(), -10);
        check.same("6: typing goes on from 1", x.type(111), 1);
    }

    private static void reads(String text, int want) {
        check.same("7: '" + text + "'", Check.read(new ProphetAudit(), text), want);
    }

    private static void readGoodTexts() {
        reads("office;", 1);
        reads("  office  ;  ", 1);
        reads("office;never 0 1;never 0 1;", 3);
        reads("office;never0 1;one5 9;mark0 5 2 3;known0 3;", 5);
        reads("office ;never 00 03 ;one 05 09;", 3);
        reads("office;one 0 0;mark 0 0 0 3 2 1;", 3);
        reads("office;known 1 1;known 1 2;", 3);
        reads("office;one 0 0;one 0 0;one 0 0;one 0 0;", 5);
        String eight = "mark 0 0 0 0;".repeat(8);
        reads("office;one 0 0;" + eight, 10);
        ProphetAudit x = Check.told("office;one 3 8;mark 0 4 2 1 3;one 0 4;mark 0 5 1 0;known 1 1;"
                + "known 1 2;never 3 3;");
        check.same("7: inspectors", x.count(0), 2);
        check.same("7: laws", x.count(1), 1);
        check.same("7: marks", x.count(2), 2);
        check.same("7: known", x.count(3), 1);
        check.same("7: nothing to undo", x.count(4), 0);
        check.same("7: trips go on by marks", x.of(0, 1), 10);
        check.same("7: the other's don't", x.of(1, 1), 4);
        check.same("7: the later known holds", x.known(1, 0), 2);
        check.same("7: all bytes of a text", Check.read(x, "office;" + " ".repeat(143)), 1);
    }

    private static void readFaults() {
        String[][] texts = {
            {"", "0"}, {"   ", "3"}, {"office", "6"}, {"office  ", "8"}, {"office;never", "12"},
            {"office;never 0", "14"}, {"office;never 0 1", "16"}, {"office;one 0 0;mark 0 0 1 ", "26"},
            {"office;one 0 0;mark 0 0 1 2", "27"},
            {"off", "0"}, {"offices;", "0"}, {"effice;", "0"}, {"offici;", "0"},
            {"office;lever 0 0;", "7"}, {"office;ane 0 0;", "7"}, {"office;one 0 0;bark 0 0 0 0;", "15"},
            {"never 0 0;", "0"}, {" ;", "1"}, {"7", "0"},
            {"office office;", "7"}, {"office;office;", "7"}, {"office;one 0 0;office;", "15"},
            {"office;;", "7"}, {"office;3;", "7"}, {"office;ones 0 0;", "7"}, {"office;on e 0 0;", "7"},
            {"office;One 0 0;", "7"}, {"officE;", "0"}, {"officeX;", "6"}, {"office1;", "6"},
            {"office;\0", "7"}, {"office;\t", "7"}, {"office -", "7"}, {"{", "0"}, {"office:", "6"},
            {"office;never 4 0;", "13"}, {"office;never 0 4;", "15"}, {"office;never 0 0 0;", "17"},
            {"office;never 0;", "14"}, {"office;never;", "12"}, {"office;never a 0;", "13"},
            {"office;never 10;", "13"}, {"office;never 000 0;", "13"}, {"office;never 0 1111;", "15"},
            {"office;never 0 0never 0 0;", "16"}, {"office;never 0,0;", "14"},
            {"office;known 6 0;", "13"}, {"office;known 5 4;", "15"}, {"office;known 0 -1;", "15"},
            {"office;one 6 0;", "11"}, {"office;one 5 10;", "13"}, {"office;one plain 0;", "11"},
            {"office;one 0 0;one 0 0;one 0 0;one 0 0;one", "39"},
            {"office;mark 0 0 0 0;", "12"}, {"office;one 0 0;mark 1 0 0 0;", "20"},
            {"office;one 0 0;mark 0 6 0 0;", "22"}, {"office;one 0 0;mark 0 0 3 0;", "24"},
            {"office;one 0 0;mark 0 0 0 4;", "26"}, {"office;one 0 0;mark 0 0 0;", "25"},
            {"office;one 0 0;mark 0 0 0 1 1;", "28"}, {"office;one 0 0;mark 0 0 0 1 01;", "28"},
            {"office;one 0 0;mark 0 0 0 1 2 1;", "30"}, {"office;one 0 0;mark 0 0 0 1 2 3 0;", "32"},
            {"office;one 0 0;mark 0 0 0 1 2 4;", "30"}, {"office;one 0 0;mark 0 0 0 1 002;", "28"},
            {"office;one 0 0;mark 0 0 0 1 2 3 one", "32"}, {"office;one 0 0;mark 0 0 0 12;", "26"},
            {"office;one 0 0;" + "mark 0 0 0 0;".repeat(8) + "mark", "119"},
            {";".repeat(150), "0"}, {" ".repeat(150), "150"}, {"office;" + ";".repeat(143), "7"},
            {"office;" + " ".repeat(142) + "x", "149"}, {" ".repeat(144) + "office", "150"},
        };
        for (String[] t : texts) {
            reads(t[0], -10 - Integer.parseInt(t[1]));
        }
    }

    private static void readChangesAllButSome() {
        ProphetAudit x = Check.told("office;never 1 2;known 3 1;one 4 5;one 0 0;mark 1 0 1 0;");
        x.chance(3, 1);
        x.image(0);
        x.known(0, 0);
        x.may(6);
        check.same("7: read", Check.read(x, "office;one 2 2;"), 2);
        int[] want = {1, 0, 0, 0, 0, 15};
        for (int what = 0; what <= 5; what++) {
            check.same("7: count " + what, x.count(what), want[what]);
        }
        check.same("7: kind", x.of(0, 0), 2);
        check.same("7: the fraction stays", x.part(0), 1);
        check.same("7: the status stays", x.status(0), 1);
        check.same("7: the image stays", x.from(0), 1);
        check.same("7: as kept", x.count(0), 2);
        check.same("7: the text stays", x.read(), 2);
        check.same("7: office alone", Check.read(x, "office;"), 1);
        check.same("7: it is empty then", x.count(0), 0);
    }

    private static void readFaultChangesNothing() {
        ProphetAudit x = Check.told("office;never 1 2;known 3 1;one 4 5;one 0 0;mark 1 0 1 0;");
        x.known(0, 0);
        Check.type(x, "office;one 2 2;known 0 4;");
        long before = x.digest();
        check.same("7: fault", x.read(), -10 - 23);
        check.same("7: all stays", x.digest(), before);
        for (int what = 0; what <= 2; what++) {
            check.same("7: a fault is no refusal " + what, x.status(what), 0);
        }
        check.same("7: still to undo", x.undo(), 1);
    }
}
