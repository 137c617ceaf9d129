/** Counts the checks of one test program and prints those that fail. */
final class Check {
    private int made;
    private int failed;

    void same(String what, long got, long want) {
        made++;
        if (got != want) {
            failed++;
            System.out.println(what + ": got " + got + ", due is " + want);
        }
    }

    void holds(String what, boolean fine) {
        same(what, fine ? 1 : 0, 1);
    }

    boolean hasFailed() {
        return failed > 0;
    }

    /** Ends the program: with exit code 1 if a check failed, or if there was none. */
    void end() {
        System.out.println(made + " checks, " + failed + " failed");
        if (failed > 0 || made == 0) {
            System.exit(1);
        }
    }

    /** Types a text into an emptied one. */
    static void type(ProphetAudit x, String text) {
        x.clear();
        for (int n = 0; n < text.length(); n++) {
            x.type(text.charAt(n));
        }
    }

    /** What read() answers to a text. */
    static int read(ProphetAudit x, String text) {
        type(x, text);
        return x.read();
    }

    /** A new object with the office that a text tells. */
    static ProphetAudit told(String text) {
        ProphetAudit x = new ProphetAudit();
        if (read(x, text) < 1) {
            throw new IllegalStateException("not an office: " + text);
        }
        return x;
    }
}
