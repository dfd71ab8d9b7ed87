/** Promises 26 to 29: swept, sweeps, owed, leaked. */
final class DawnTest {
    private static final Due DUE = new Due();

    public static void main(String[] args) {
        sweptAndSweeps();
        owed();
        leaked();
        DUE.end("DawnTest");
    }

    private static void sweptAndSweeps() {
        NinthAir x = new NinthAir();
        DUE.is("swept(0) without FROST", x.swept(0), 256);
        DUE.is("sweeps(0) without FROST", x.sweeps(0), 0);
        int[] frosts = {1, 2, 3, 4, 10, 20, 30, 9999};
        for (int r = 0; r < 8; r++) {
            x.room(r, 1, frosts[r]);
        }
        DUE.is("swept(0)", x.swept(0), 1);
        DUE.is("sweeps(0)", x.sweeps(0), 0);
        DUE.is("swept(3): 3, 1+2", x.swept(3), 2);
        DUE.is("sweeps(3)", x.sweeps(3), 3);
        DUE.is("swept(5): 1+4, 2+3", x.swept(5), 2);
        DUE.is("sweeps(5)", x.sweeps(5), 6);
        DUE.is("swept(10): 10, 1+2+3+4", x.swept(10), 2);
        DUE.is("sweeps(10)", x.sweeps(10), 15);
        DUE.is("swept(30): 30, 10+20, 20+10 small", x.swept(30), 3);
        DUE.is("sweeps(30)", x.sweeps(30), 47);
        DUE.is("swept all", x.swept(10069), 1);
        DUE.is("sweeps all", x.sweeps(10069), 255);
        DUE.is("swept more than all", x.swept(10070), 0);
        DUE.is("sweeps more than all", x.sweeps(10070), Due.NONE);
        DUE.is("swept(99999)", x.swept(99999), 0);
        DUE.is("sweeps(99999)", x.sweeps(99999), Due.NONE);
        DUE.is("swept(-1)", x.swept(-1), Due.BEYOND);
        DUE.is("sweeps(-1)", x.sweeps(-1), Due.BEYOND);
        DUE.is("swept(100000)", x.swept(100000), Due.BEYOND);
        DUE.is("sweeps(100000)", x.sweeps(100000), Due.BEYOND);
        for (int r = 0; r < 8; r++) {
            x.room(r, 1, 9999);
        }
        DUE.is("swept(8 * 9999)", x.swept(8 * 9999), 1);
        DUE.is("swept(4 * 9999)", x.swept(4 * 9999), 70);
        DUE.is("sweeps(4 * 9999)", x.sweeps(4 * 9999), 15);
    }

    private static void owed() {
        NinthAir x = new NinthAir();
        DUE.is("owed: none has any", x.owed(), 0);
        x.room(7, 1, 1);
        DUE.is("owed: the last", x.owed(), 7);
        x.room(1, 1, 2);
        DUE.is("owed: the second", x.owed(), 1);
        x.room(3, 1, 5);
        x.room(5, 1, 5);
        DUE.is("owed: of several the least", x.owed(), 3);
        x.room(0, 0, 9999);
        DUE.is("owed: AIR is none of it", x.owed(), 3);
    }

    private static void leaked() {
        NinthAir x = new NinthAir();
        DUE.is("leaked: mild", x.leaked(0, 40, 100), 10);
        DUE.is("leaked: mild, another v", x.leaked(0, 40, 99), 0);
        x.cold(1);
        DUE.is("leaked: no HOUR", x.leaked(0, 0, 100), 10);
        DUE.is("leaked: TIGHT 5", x.leaked(0, 1, 80), 1);
        DUE.is("leaked: none", x.leaked(0, 1, 81), 0);
        x.room(3, 0, 10);
        x.room(3, 3, 2);
        DUE.is("leaked: TIGHT 8 and 9", x.leaked(3, 1, 10), 2);
        DUE.is("leaked: TIGHT 0 and 1", x.leaked(3, 1, 6), 2);
        DUE.is("leaked: TIGHT stays", x.roomOf(3, 3), 2);
        DUE.is("leaked: AIR stays", x.roomOf(3, 0), 10);
        DUE.is("leaked(-1, 0, 0)", x.leaked(-1, 0, 0), Due.BEYOND);
        DUE.is("leaked(8, 0, 0)", x.leaked(8, 0, 0), Due.BEYOND);
        DUE.is("leaked(0, -1, 0)", x.leaked(0, -1, 0), Due.BEYOND);
        DUE.is("leaked(0, 41, 0)", x.leaked(0, 41, 0), Due.BEYOND);
        DUE.is("leaked(0, 0, -1)", x.leaked(0, 0, -1), Due.BEYOND);
        DUE.is("leaked(0, 0, 10000)", x.leaked(0, 0, 10000), Due.BEYOND);
        x.room(4, 0, 0);
        DUE.is("leaked(4, 40, 0)", x.leaked(4, 40, 0), 10);
        x.room(4, 0, 9999);
        DUE.is("leaked(4, 0, 9999)", x.leaked(4, 0, 9999), 10);
    }
}
