/** The text by which an office is told: each fault that the document names, and its edges. */
public final class FaultsTest {
    private static final Check check = new Check();
    private static final String FOUR = "one0 0;one1 0;one2 0;one3 9;";
    private static final String EIGHT = "mark0 0 0 0;".repeat(8);
    /** All there may be, in all the bytes there may be: 15 items. */
    private static final String ALL = "office;" + FOUR + EIGHT + "never3 3;known5 3; ";

    public static void main(String[] args) {
        theLength();
        endsTooEarly();
        cutAnywhere();
        aWordThatIsNone();
        officeOnceAndFirst();
        inspectors();
        marks();
        runsOfFigures();
        numbersOfItems();
        eventsOfAMark();
        blanks();
        everyByteAhead();
        everyByteBehindOffice();
        everyByteBetweenNumbers();
        everyByteBehindNumbers();
        aFaultChangesNothing();
        whatIsReadTakesThePlace();
        check.end();
    }

    private static void items(String what, String text, int want) {
        check.same(what + " '" + text + "'", Check.read(new ProphetAudit(), text), want);
    }

    private static void fault(String what, String text, int place) {
        items(what, text, -10 - place);
    }

    /** The fault is at the last place of the text where this stands. */
    private static void faultAtLast(String what, String text, String token) {
        fault(what, text, text.lastIndexOf(token));
    }

    private static void theLength() {
        check.same("150 bytes in all", ALL.length(), 150);
        ProphetAudit x = new ProphetAudit();
        items("150 bytes", ALL, 15);
        Check.type(x, ALL);
        check.same("a 151st", x.type(';'), ProphetAudit.FULL);
        check.same("it did not come", x.read(), 15);
        items("as many items as there is room for", "office;" + "never0 0;".repeat(15), 16);
        fault("150 blanks", " ".repeat(150), 150);
        fault("the last of 150 bytes", "office;" + " ".repeat(142) + "+", 149);
        fault("150 bytes that end too early", "office;" + " ".repeat(138) + "never", 150);
        fault("a word of 150 letters", "o".repeat(150), 0);
        fault("a run of 150 figures", "0".repeat(150), 0);
    }

    private static void endsTooEarly() {
        fault("an empty text", "", 0);
        fault("a blank alone", " ", 1);
        fault("no ; behind office", "office", 6);
        fault("a blank behind it", "office ", 7);
        for (String text : new String[] {"never", "never 0", "never 0 1", "known", "known 5",
            "known 5 3", "one", "one 5", "one 5 9", "one 0 0;mark", "one 0 0;mark 0",
            "one 0 0;mark 0 5", "one 0 0;mark 0 5 2", "one 0 0;mark 0 5 2 3",
            "one 0 0;mark 0 5 2 3 2", "one 0 0;mark 0 5 2 3 2 1"}) {
            fault("ends too early", "office;" + text, 7 + text.length());
            fault("ends too early", "office;" + text + "   ", 10 + text.length());
        }
    }

    /** A text that is good, cut at each place: good behind a ;, a fault anywhere else. */
    private static void cutAnywhere() {
        String text = "  office ;one 5 09 ; mark0 3 2 1 0 ;known 5 3;never 03 0;  ";
        for (int n = 0; n <= text.length(); n++) {
            String cut = text.substring(0, n);
            if (cut.trim().endsWith(";")) {
                items("cut", cut, cut.replaceAll("[^;]", "").length());
            } else {
                fault("cut", cut, endOrWordOf(cut));
            }
        }
    }

    private static int endOrWordOf(String cut) {
        String word = cut.replaceFirst("(?s)^.*[^a-z]", "");
        boolean whole = word.matches("|office|never|known|one|mark");
        return whole ? cut.length() : cut.length() - word.length();
    }

    private static void aWordThatIsNone() {
        for (String word : new String[] {"a", "z", "o", "offic", "offices", "xoffice"}) {
            fault("no word", word + ";", 0);
            fault("no word", "   " + word + ";", 3);
        }
        for (String word : new String[] {"a", "z", "neve", "nevers", "knowm", "knows", "on", "ones",
            "marc", "marks", "plain", "text", "undo", "oneone"}) {
            fault("no word", "office;" + word + " 0 0;", 7);
            fault("no word behind an item", "office;one 0 0;" + word + " 0 0;", 15);
        }
        fault("large letters", "Office;", 0);
        fault("large letters", "office;Never 0 0;", 7);
        fault("a large letter behind small ones", "offiCE;", 0);
        fault("a kind is told as its number", "office;one plain 0;", 11);
        fault("a word where a number must be", "office;never one 0;", 13);
        fault("a word where ; must be", "office;never 0 0 one 0 0;", 17);
        fault("a word where ; may be", "office;one 0 0;mark 0 0 0 0 one;", 28);
    }

    private static void officeOnceAndFirst() {
        items("office alone", "office;", 1);
        fault("office again", "office;office;", 7);
        fault("office again at once", "office office;", 7);
        faultAtLast("office again in the end", ALL.replace("known5 3; ", "office;"), "office");
        fault("; ahead of it", ";office;", 0);
        fault("a number ahead of it", "1 office;", 0);
        fault("an item ahead of it", "one 0 0;office;", 0);
        fault("; again", "office;;", 7);
        fault("; again behind an item", "office;one 0 0;;", 15);
        fault("a number behind it", "office 0;", 7);
        fault("a number for an item", "office;0;", 7);
    }

    private static void inspectors() {
        items("four", "office;" + FOUR, 5);
        faultAtLast("a 5th one", "office;" + FOUR + "one 0 0;", "one");
        faultAtLast("a 5th one at its word", "office;" + FOUR + "one", "one");
        faultAtLast("a 5th one with numbers not as told", "office;" + FOUR + "one 9 99;", "one");
        fault("none there", "office;mark 0 0 0 0;", 12);
        fault("; where one must be", "office;mark;", 11);
        items("the last that is there", "office;" + FOUR + "mark 3 0 0 0;", 6);
        faultAtLast("the first that is not", "office;" + FOUR + "mark 4 0 0 0;", "4");
        items("there already", "office;one 0 0;one 0 0;mark 1 0 0 0;", 4);
        fault("not there yet", "office;one 0 0;mark 1 0 0 0;one 0 0;", 20);
    }

    private static void marks() {
        items("eight", "office;one0 0;" + EIGHT, 10);
        faultAtLast("a 9th mark", "office;one0 0;" + EIGHT + "mark0 0 0 0;", "mark");
        faultAtLast("a 9th mark at its word", "office;one0 0;" + EIGHT + "mark", "mark");
        faultAtLast("a 9th mark with numbers not as told", "office;one0 0;" + EIGHT + "mark 9 9;", "mark");
        items("others may come behind the 8th", "office;one0 0;" + EIGHT + "one0 0;known 0 0;", 12);
    }

    private static void runsOfFigures() {
        items("one figure", "office;never 3 3;", 2);
        items("two figures", "office;never 03 03;", 2);
        fault("three figures", "office;never 003 3;", 13);
        fault("three figures", "office;never 3 003;", 15);
        fault("four figures", "office;never 0000 0;", 13);
        fault("three figures that end the text", "office;never 000", 13);
        fault("three figures ahead of all", "000", 0);
        fault("three figures where ; must be", "office;never 0 0 000;", 17);
        fault("three figures for an event", "office;one 0 0;mark 0 0 0 1 002;", 28);
        fault("three figures for a 4th one", "office;one 0 0;mark 0 0 0 1 2 3 000;", 32);
        items("two figures behind a word", "office;one05 09;", 2);
        fault("three figures behind a word", "office;one005 9;", 10);
    }

    /** Of each number of each item the least, the last that may be and the first that may not. */
    private static void numbersOfItems() {
        numbersOf("never", new int[] {2, 1}, new int[] {3, 3});
        numbersOf("known", new int[] {4, 1}, new int[] {5, 3});
        numbersOf("one", new int[] {4, 8}, new int[] {5, 9});
        numbersOf("mark", new int[] {0, 4, 1, 1, 2}, new int[] {0, 5, 2, 3, 3});
        fault("one more", "office;never 0 0 0;", 17);
        fault("one more", "office;known 0 0 0;", 17);
        fault("one more", "office;one 0 0 0;", 15);
        fault("below 0", "office;known 0 -1;", 15);
        fault("no more known is not told", "office;known 0;", 14);
    }

    private static void numbersOf(String word, int[] good, int[] last) {
        String begun = "office;one 0 0;" + word;
        for (int k = 0; k < good.length; k++) {
            int place = begun.length() + 1 + 2 * k;
            items("the least", begun + numbers(good, k, 0) + ";", 3);
            items("the last", begun + numbers(good, k, last[k]) + ";", 3);
            fault("the first beyond", begun + numbers(good, k, last[k] + 1) + ";", place);
            fault("the greatest of two figures", begun + numbers(good, k, 99) + ";", place);
        }
    }

    private static String numbers(int[] all, int at, int instead) {
        StringBuilder told = new StringBuilder();
        for (int k = 0; k < all.length; k++) {
            told.append(' ').append(k == at ? instead : all[k]);
        }
        return told.toString();
    }

    private static void eventsOfAMark() {
        String begun = "office;one 0 0;mark 0 0 0 ";
        fault("; where there is none", begun + ";", 26);
        items("one", begun + "0;", 3);
        items("two", begun + "3 0;", 3);
        items("three", begun + "3 0 2;", 3);
        fault("a 4th one", begun + "3 0 2 1;", 32);
        fault("a 4th one that is there already", begun + "3 0 2 2;", 32);
        fault("a 4th one that ends the text", begun + "3 0 2 1", 32);
        for (int e = 0; e < 4; e++) {
            fault("again at once", begun + e + " " + e + ";", 28);
            fault("again with a 0 ahead", begun + e + " 0" + e + ";", 28);
            fault("again behind another", begun + e + " " + (e + 1) % 4 + " " + e + ";", 30);
            fault("the second again", begun + e + " " + (e + 1) % 4 + " " + (e + 1) % 4 + ";", 30);
        }
        String[] threes = {"1 2 3", "3 0 2", "1 3 0", "2 1 0"};
        for (int left = 0; left < 4; left++) {
            ProphetAudit x = Check.told(begun + threes[left] + ";");
            check.same("a plain one's 0 to " + threes[left], x.may(0), 1 << left);
        }
    }

    private static void blanks() {
        items("none where none is needed", "office;never0 1;one5 9;known0 3;mark0 0 0 0;", 5);
        items("any number", "   office   ;   never   0   1   ;   ", 2);
        fault("needed between two words", "officenever 0 1;", 0);
        fault("needed between two numbers", "office;never 01;", 15);
        fault("between two numbers, not as told", "office;never 10;", 13);
        fault("within a word", "off ice;", 0);
        items("none around ;", "office;known 0 0;known 1 1;", 3);
    }

    private static boolean isLetter(int c) {
        return 'a' <= c && c <= 'z';
    }

    private static boolean isFigure(int c) {
        return '0' <= c && c <= '9';
    }

    private static void everyByteAhead() {
        for (int c = 0; c < 128; c++) {
            items("byte " + c + " ahead", (char) c + "office;", c == ' ' ? 1 : -10);
        }
    }

    private static void everyByteBehindOffice() {
        for (int c = 0; c < 128; c++) {
            int place = isLetter(c) ? 0 : c == ';' ? 7 : 6;
            items("byte " + c + " behind office", "office" + (char) c + ";", c == ' ' ? 1 : -10 - place);
            items("byte " + c + " behind ;", "office;" + (char) c, c == ' ' ? 1 : -17);
        }
    }

    private static void everyByteBetweenNumbers() {
        for (int c = 0; c < 128; c++) {
            int place = isFigure(c) ? 13 : 14;
            items("byte " + c + " between", "office;never 0" + (char) c + "1;", c == ' ' ? 2 : -10 - place);
        }
    }

    private static void everyByteBehindNumbers() {
        for (int c = 0; c < 128; c++) {
            int place = isFigure(c) ? 15 : c == ';' ? 17 : 16;
            items("byte " + c + " behind", "office;never 0 1" + (char) c + ";", c == ' ' ? 2 : -10 - place);
        }
    }

    private static ProphetAudit some() {
        ProphetAudit x = Check.told("office;never 1 2;known 3 1;one 4 5;one 0 0;mark 1 0 1 0;");
        x.image(0);
        x.known(0, 0);
        x.chance(0, 0);
        x.mark(1, 0, 3, 1);
        x.undo();
        x.undo();
        x.undo();
        x.mark(0, 2, 4, 2);
        return x;
    }

    private static void aFaultChangesNothing() {
        String[] texts = {"", "office", "office;one 2 2;known 0 4;", ALL.trim() + "x", "nothing"};
        for (String text : texts) {
            ProphetAudit x = some();
            Check.type(x, text);
            ProphetAudit same = some();
            Check.type(same, text);
            int[] before = Whole.status(x);
            check.holds("a fault in '" + text + "'", x.read() <= -10);
            for (int k = 0; k < 3; k++) {
                check.same("status " + k + " stays", x.status(k), before[k]);
            }
            check.holds("all stays by '" + text + "'", Whole.of(x).equals(Whole.of(same)));
        }
    }

    private static void whatIsReadTakesThePlace() {
        ProphetAudit x = some();
        int[] before = Whole.status(x);
        long above = x.part(0);
        long below = x.part(1);
        check.same("all is read", Check.read(x, ALL), 15);
        int[] counts = {4, 1, 8, 1, 0, 150};
        for (int k = 0; k < counts.length; k++) {
            check.same("count " + k, x.count(k), counts[k]);
        }
        check.same("trips", x.of(0, 1), 8);
        check.same("trips as told", x.of(3, 1), 9);
        check.same("above stays", x.part(0), above);
        check.same("below stays", x.part(1), below);
        for (int k = 0; k < 3; k++) {
            check.same("status " + k + " stays", x.status(k), before[k]);
        }
        check.same("nothing to undo", x.undo(), ProphetAudit.NO);
        check.same("it is full", x.one(0, 0), ProphetAudit.FULL);
        check.same("it is full", x.mark(0, 0, 1, 0), ProphetAudit.FULL);
        check.same("the image stays", x.from(0), 1);
        check.same("as it was", x.count(0), 2);
        check.same("the other one is still not kept", x.from(1), ProphetAudit.NO);
        check.same("read again", x.read(), 15);
        check.same("laws of before are gone", Check.read(x, "office;"), 1);
        for (int k = 0; k < 5; k++) {
            check.same("nothing is left " + k, x.count(k), 0);
        }
    }
}
