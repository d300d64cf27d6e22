/** Counts and prints answers that are not as due; a test ends with its exit code. */
final class Due {
    private int wrong = 0;
    private int asked = 0;

    void is(String call, long got, long want) {
        asked++;
        if (got != want) {
            wrong++;
            if (wrong <= 40) {
                System.out.println(call + " answered " + got + ", due is " + want);
            }
        }
    }

    void holds(String what, boolean truth) {
        is(what, truth ? 1 : 0, 1);
    }

    /** Types a text behind an emptied one and reads it. */
    static int read(CacheBounds x, String text) {
        x.clear();
        for (int i = 0; i < text.length(); i++) {
            x.type(text.charAt(i));
        }
        return x.reads();
    }

    /** A new object that has read the text. */
    CacheBounds with(String text) {
        CacheBounds x = new CacheBounds();
        holds("'" + text + "' is read", read(x, text) >= 0);
        return x;
    }

    static void looks(CacheBounds x, int... lines) {
        for (int line : lines) {
            x.look(line);
        }
    }

    /** The row as digits, front first, with a 9 ahead: 9 is empty, 912 holds 1, then 2. */
    static int row(CacheBounds x) {
        int digits = 9;
        for (int k = 0; k < 8 && x.held(k) != CacheBounds.NONE; k++) {
            digits = 10 * digits + x.held(k);
        }
        return digits;
    }

    boolean anyWrong() {
        return wrong != 0;
    }

    void end(String test) {
        System.out.println(test + ": " + asked + " answers, " + wrong + " not as due");
        if (wrong != 0) {
            System.exit(1);
        }
    }
}
