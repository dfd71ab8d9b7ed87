/** Compares answers with those that are due, and counts the wrong ones; every test of the project uses it. */
final class Due {
    static final int BEYOND = -1000000001;
    static final int FULL = -1000000002;
    static final int KIND = -1000000003;
    static final int NONE = -1000000004;
    static final int STATE = -1000000005;
    static final int MISSING = -1000000006;
    static final int SIZE = -1000000007;

    private int asked;
    private int wrong;

    void is(String call, long got, long want) {
        asked++;
        if (got != want) {
            wrong++;
            System.out.println(call + " answered " + got + ", due is " + want);
        }
    }

    void that(String claim, boolean holds) {
        asked++;
        if (!holds) {
            wrong++;
            System.out.println("not so: " + claim);
        }
    }

    /** Feeds a text to THE TAPE, four bytes a call. */
    static void feed(NinthAir x, String text) {
        for (int from = 0; from < text.length(); from += 4) {
            int n = Math.min(4, text.length() - from);
            int bytes = 0;
            for (int i = 0; i < n; i++) {
                bytes = bytes << 8 | text.charAt(from + i) & 255;
            }
            x.feed(bytes, n);
        }
    }

    static int text(NinthAir x, String text) {
        feed(x, text);
        return x.text();
    }

    void end(String name) {
        System.out.println(name + ": " + asked + " asked, " + wrong + " wrong");
        if (wrong != 0 || asked == 0) {
            System.exit(1);
        }
    }
}
