/** Promises 33 to 38: sheet, write, copy, lays, book, read. */
final class SheetsTest {
    private static final Due DUE = new Due();

    public static void main(String[] args) {
        sheet();
        write();
        copy();
        lays();
        book();
        read();
        DUE.end("SheetsTest");
    }

    private static void sheet() {
        NinthAir x = new NinthAir();
        DUE.is("sheet(-1, 8, 1)", x.sheet(-1, 8, 1), Due.BEYOND);
        DUE.is("sheet(4, 8, 1)", x.sheet(4, 8, 1), Due.BEYOND);
        DUE.is("sheet(0, 32, 1)", x.sheet(0, 32, 1), Due.BEYOND);
        DUE.is("sheet(0, -8, 1)", x.sheet(0, -8, 1), Due.BEYOND);
        DUE.is("sheet(0, 8, -1)", x.sheet(0, 8, -1), Due.SIZE);
        DUE.is("sheet(0, 0, -1)", x.sheet(0, 0, -1), Due.SIZE);
        DUE.is("sheet(0, 7, -1): bits first", x.sheet(0, 7, -1), Due.BEYOND);
        DUE.is("sheet(4, 8, -1): sheet first", x.sheet(4, 8, -1), Due.BEYOND);
        DUE.is("sheet(0, 8, 41)", x.sheet(0, 8, 41), Due.BEYOND);
        DUE.is("sheet(0, 0, 41)", x.sheet(0, 0, 41), Due.BEYOND);
        DUE.is("still MISSING", x.lays(0), Due.MISSING);
        DUE.is("sheet(0, 8, 40)", x.sheet(0, 8, 40), 40);
        DUE.is("sheet(3, 64, 0)", x.sheet(3, 64, 0), 0);
        DUE.is("of no numbers, but there", x.lays(3), 0);
        x.write(0, 0, 4);
        x.write(0, 39, 5);
        DUE.is("kept as findings come", x.sheet(0, 8, 41), Due.BEYOND);
        DUE.is("number 39", x.write(0, 39, 6), 5);
        DUE.is("sheet(0, 16, 40): anew", x.sheet(0, 16, 40), 40);
        DUE.is("all 0, the first", x.write(0, 0, 7), 0);
        DUE.is("all 0, the last", x.write(0, 39, 7), 0);
        DUE.is("sheet(0, 16, 2): fewer", x.sheet(0, 16, 2), 2);
        DUE.is("number 2", x.write(0, 2, 0), Due.BEYOND);
        x.sheet(0, 16, 40);
        DUE.is("all 0 again", x.write(0, 39, 7), 0);
        DUE.is("sheet(0, 0, 30)", x.sheet(0, 0, 30), 0);
        DUE.is("MISSING again", x.write(0, 0, 0), Due.MISSING);
        DUE.is("SIZE findings", x.status(6), 2);
    }

    private static void write() {
        NinthAir x = new NinthAir();
        DUE.is("write(4, 0, 0)", x.write(4, 0, 0), Due.BEYOND);
        DUE.is("write(-1, 0, 0)", x.write(-1, 0, 0), Due.BEYOND);
        DUE.is("write(1, -1, 0): MISSING first", x.write(1, -1, 0), Due.MISSING);
        x.sheet(1, 8, 3);
        DUE.is("write(1, -1, 0)", x.write(1, -1, 0), Due.BEYOND);
        DUE.is("write(1, 3, 0)", x.write(1, 3, 0), Due.BEYOND);
        long[] wrote = {127, 128, 255, 256, -128, -129, 0x1234567890L};
        long[] eight = {127, -128, -1, 0, -128, 127, -112};
        long[] sixteen = {127, 128, 255, 256, -128, -129, 0x7890};
        for (int i = 0; i < wrote.length; i++) {
            x.sheet(1, 8, 3);
            x.sheet(2, 16, 3);
            x.sheet(3, 64, 3);
            DUE.is("8 bits, first", x.write(1, 2, wrote[i]), 0);
            DUE.is("16 bits, first", x.write(2, 2, wrote[i]), 0);
            DUE.is("64 bits, first", x.write(3, 2, wrote[i]), 0);
            DUE.is("8 bits of " + wrote[i], x.write(1, 2, 0), eight[i]);
            DUE.is("16 bits of " + wrote[i], x.write(2, 2, 0), sixteen[i]);
            DUE.is("64 bits of " + wrote[i], x.write(3, 2, 0), wrote[i]);
        }
        x.write(2, 0, 32768);
        DUE.is("16 bits of 32768", x.write(2, 0, 0), -32768);
        x.write(3, 0, Long.MIN_VALUE);
        DUE.is("64 bits of the least", x.write(3, 0, Due.BEYOND), Long.MIN_VALUE);
        int before = x.status(-1);
        DUE.is("a number that looks like a finding", x.write(3, 0, 1), Due.BEYOND);
        DUE.is("isn't one", x.status(-1), before);
    }

    private static NinthAir twoSheets() {
        NinthAir x = new NinthAir();
        x.sheet(0, 16, 5);
        x.sheet(1, 16, 8);
        for (int i = 0; i < 5; i++) {
            x.write(0, i, 10 + i);
        }
        for (int i = 0; i < 8; i++) {
            x.write(1, i, 20 + i);
        }
        return x;
    }

    private static void numbers(NinthAir x, int s, int... due) {
        for (int i = 0; i < due.length; i++) {
            DUE.is("number " + i + " of sheet " + s, x.write(s, i, 0), due[i]);
        }
        DUE.is("no more numbers", x.write(s, due.length, 0), Due.BEYOND);
    }

    private static void copy() {
        NinthAir x = twoSheets();
        DUE.is("copy(0, 1, 1, 5, 3)", x.copy(0, 1, 1, 5, 3), 3);
        numbers(x, 1, 20, 21, 22, 23, 24, 11, 12, 13);
        numbers(x, 0, 10, 11, 12, 13, 14);
        x = twoSheets();
        DUE.is("copy to itself, on", x.copy(1, 0, 1, 2, 6), 6);
        numbers(x, 1, 20, 21, 20, 21, 22, 23, 24, 25);
        x = twoSheets();
        DUE.is("copy to itself, back", x.copy(1, 2, 1, 0, 6), 6);
        numbers(x, 1, 22, 23, 24, 25, 26, 27, 26, 27);
        x = twoSheets();
        DUE.is("copy of all", x.copy(0, 0, 1, 3, 5), 5);
        numbers(x, 1, 20, 21, 22, 10, 11, 12, 13, 14);
        x = twoSheets();
        DUE.is("copy to all", x.copy(1, 3, 0, 0, 5), 5);
        numbers(x, 0, 23, 24, 25, 26, 27);
        x = twoSheets();
        DUE.is("copy of none, at the ends", x.copy(0, 5, 1, 8, 0), 0);
        DUE.is("copy of none, behind", x.copy(0, 6, 1, 8, 0), Due.BEYOND);
        DUE.is("copy of none, behind", x.copy(0, 5, 1, 9, 0), Due.BEYOND);
        DUE.is("copy: the source is short", x.copy(0, 3, 1, 0, 3), Due.BEYOND);
        DUE.is("copy: the target is short", x.copy(1, 0, 0, 0, 6), Due.BEYOND);
        DUE.is("copy: from below 0", x.copy(0, -1, 1, 0, 1), Due.BEYOND);
        DUE.is("copy: to below 0", x.copy(0, 0, 1, -1, 1), Due.BEYOND);
        DUE.is("copy: n below 0", x.copy(0, 0, 1, 0, -1), Due.BEYOND);
        DUE.is("copy: far", x.copy(0, Integer.MAX_VALUE, 1, 0, 2), Due.BEYOND);
        DUE.is("copy: far", x.copy(0, 2, 1, 0, Integer.MAX_VALUE), Due.BEYOND);
        DUE.is("copy: far", x.copy(0, 2, 1, Integer.MAX_VALUE, Integer.MAX_VALUE), Due.BEYOND);
        DUE.is("copy: no such sheet", x.copy(4, 0, 1, 0, 1), Due.BEYOND);
        DUE.is("copy: no such sheet, with one MISSING", x.copy(2, 0, -1, 0, 1), Due.BEYOND);
        DUE.is("copy: MISSING", x.copy(2, 0, 1, 0, 1), Due.MISSING);
        DUE.is("copy: MISSING ahead of wrong numbers", x.copy(0, -9, 2, -9, -9), Due.MISSING);
        x.sheet(2, 8, 8);
        DUE.is("copy: other bits ahead of wrong numbers", x.copy(0, -9, 2, -9, -9), Due.KIND);
        numbers(x, 1, 20, 21, 22, 23, 24, 25, 26, 27);
        numbers(x, 0, 10, 11, 12, 13, 14);
    }

    private static void lays() {
        NinthAir x = new NinthAir();
        DUE.is("lays(4)", x.lays(4), Due.BEYOND);
        DUE.is("lays(-1)", x.lays(-1), Due.BEYOND);
        DUE.is("lays(0)", x.lays(0), Due.MISSING);
        x.sheet(0, 64, 10);
        long[] wrote = {0, 9999, 10000, -1, 5, 1L << 32, Long.MIN_VALUE, 7, 8, 9};
        for (int i = 0; i < wrote.length; i++) {
            x.write(0, i, wrote[i]);
        }
        DUE.is("lays", x.lays(0), 4);
        int[] airs = {0, 9999, 100, 100, 5, 100, 100, 7};
        for (int r = 0; r < 8; r++) {
            DUE.is("AIR of " + r, x.roomOf(r, 0), airs[r]);
        }
        x.sheet(1, 8, 2);
        x.write(1, 0, 200);
        x.write(1, 1, 100);
        DUE.is("lays: 200 in 8 bits is below 0", x.lays(1), 1);
        DUE.is("AIR of 0", x.roomOf(0, 0), 0);
        DUE.is("AIR of 1", x.roomOf(1, 0), 100);
        DUE.is("AIR of 2", x.roomOf(2, 0), 100);
    }

    private static void book() {
        NinthAir x = new NinthAir();
        DUE.is("book(4, 0)", x.book(4, 0), Due.BEYOND);
        DUE.is("book(-1, 0)", x.book(-1, 0), Due.BEYOND);
        DUE.is("book(0, 9): MISSING first", x.book(0, 9), Due.MISSING);
        x.sheet(0, 16, 4);
        DUE.is("book(0, 8)", x.book(0, 8), Due.BEYOND);
        DUE.is("book(0, -1)", x.book(0, -1), Due.BEYOND);
        x.cold(1);
        x.one(0, 2);
        DUE.is("book(0, 2)", x.book(0, 2), 4);
        numbers(x, 0, 100, 77, 59, 45);
        DUE.is("nothing changes", x.roomOf(2, 0), 100);
        DUE.is("HOUR stays", x.now(0), 0);
        x.room(2, 0, 9999);
        x.sheet(0, 8, 2);
        x.book(0, 2);
        numbers(x, 0, 15, 61);
    }

    private static void read() {
        NinthAir x = new NinthAir();
        DUE.is("read(4, 0)", x.read(4, 0), Due.BEYOND);
        DUE.is("read(-1, 0)", x.read(-1, 0), Due.BEYOND);
        DUE.is("read(0, 9): MISSING first", x.read(0, 9), Due.MISSING);
        x.sheet(0, 16, 0);
        DUE.is("read(0, 8)", x.read(0, 8), Due.BEYOND);
        DUE.is("read(0, -1)", x.read(0, -1), Due.BEYOND);
        DUE.is("read of nothing", x.read(0, 0), 1000);
        x.sheet(0, 16, 40);
        x.book(0, 0);
        DUE.is("read: mild, no FROST", x.read(0, 0), 1000);
        x.cold(1);
        x.room(0, 1, 50);
        x.room(0, 2, 10);
        x.sheet(0, 16, 2);
        x.book(0, 0);
        // 90: 10 less fell than rose by FIRE; 5 a TIGHT: FIRE is 5 * (9 - TIGHT) less 10.
        DUE.is("read: AIR 90", x.read(0, 0), 8);
        x.sheet(0, 16, 3);
        x.book(0, 0);
        DUE.is("read: AIR 90, then 82: also TIGHT 6 with FIRE 5", x.read(0, 0), 2);
        x.sheet(0, 16, 4);
        x.book(0, 0);
        DUE.is("read: AIR 90, 82, then 76", x.read(0, 0), 1);
        x.write(0, 3, 1);
        DUE.is("read: as it can't be", x.read(0, 0), 0);
        x.book(0, 0);
        x.write(0, 0, 99);
        DUE.is("read: wrong at first", x.read(0, 0), 0);
        DUE.is("TIGHT stays", x.roomOf(0, 3), 5);
        DUE.is("FIRE stays", x.roomOf(0, 2), 10);
        x.sheet(1, 64, 1);
        x.write(1, 0, 100 + (1L << 32));
        DUE.is("read: all 64 bits count", x.read(1, 0), 0);
    }
}
