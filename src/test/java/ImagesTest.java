/** Promises 39 to 43: image, undo, tear, count, status. */
final class ImagesTest {
    private static final Due DUE = new Due();

    public static void main(String[] args) {
        undo();
        tear();
        count();
        status();
        DUE.end("ImagesTest");
    }

    private static void undo() {
        NinthAir x = new NinthAir();
        DUE.is("undo: nothing is kept", x.undo(), Due.NONE);
        x.room(1, 0, 1);
        x.room(2, 1, 2);
        x.room(3, 2, 3);
        x.room(4, 3, 4);
        x.door(5, 1);
        x.cold(1);
        x.one(1, 6);
        x.one(3, 7);
        x.set(0, 2, 8);
        x.set(1, 4, 1);
        x.hours(1);
        int[] before = section1(x);
        x.feed('c', 1);
        x.sheet(0, 8, 1);
        DUE.is("image()", x.image(), 1);
        x.hours(7);
        x.goes(0);
        x.turn(0, 5);
        x.set(0, 1, 0);
        x.one(0, 0);
        x.one(0, 0);
        x.cold(0);
        x.door(5, 0);
        x.room(4, 3, 9);
        x.room(3, 2, 9);
        x.feed('o', 1);
        x.write(0, 0, 99);
        DUE.is("undo()", x.undo(), 2);
        same("undo", section1(x), before);
        DUE.is("THE TAPE is as it is", x.count(1), 2);
        DUE.is("SHEETS are as they are", x.write(0, 0, 0), 99);
        x.hours(2);
        DUE.is("undo() again", x.undo(), 2);
        same("undo again", section1(x), before);
        x.one(4, 4);
        x.image();
        x.goes(0);
        x.goes(0);
        DUE.is("undo() to the latest", x.undo(), 3);
        DUE.is("KIND of the third", x.of(2, 0), 4);
        DUE.is("findings are taken back by none", x.status(-1), 1);
    }

    private static int[] section1(NinthAir x) {
        int[] all = new int[8 * 6 + 7 + 1 + 8 * 6 + 1];
        int at = 0;
        for (int r = 0; r < 8; r++) {
            for (int what = 0; what < 6; what++) {
                all[at++] = x.roomOf(r, what);
            }
        }
        for (int what = 0; what < 7; what++) {
            all[at++] = x.now(what);
        }
        int cold = x.cold(0);
        x.cold(cold);
        all[at++] = cold;
        all[at++] = x.count(0);
        for (int one = 0; one < x.count(0); one++) {
            for (int what = 0; what < 6; what++) {
                all[at++] = x.of(one, what);
            }
        }
        return all;
    }

    private static void same(String call, int[] got, int[] want) {
        for (int i = 0; i < want.length; i++) {
            DUE.is(call + ", " + i, got[i], want[i]);
        }
    }

    private static void tear() {
        NinthAir x = new NinthAir();
        DUE.is("tear: nothing is kept", x.tear(), 0);
        x.image();
        x.image();
        DUE.is("tear()", x.tear(), 1);
        DUE.is("tear() again", x.tear(), 0);
        DUE.is("undo() then", x.undo(), Due.NONE);
        x.room(0, 0, 5);
        x.image();
        x.room(0, 0, 6);
        DUE.is("undo() of a new image", x.undo(), 0);
        DUE.is("AIR", x.roomOf(0, 0), 5);
    }

    private static void count() {
        NinthAir x = new NinthAir();
        x.one(0, 0);
        x.one(0, 0);
        x.one(0, 0);
        x.set(1, 2, 20);
        x.set(2, 4, 1);
        x.goes(0);
        x.feed(0, 3);
        x.room(3, 3, 9);
        x.room(7, 3, 0);
        DUE.is("PEOPLE", x.count(0), 2);
        DUE.is("bytes", x.count(1), 3);
        DUE.is("NEEDS", x.count(2), 23);
        DUE.is("TIGHT", x.count(3), 39);
        DUE.is("count(-1)", x.count(-1), Due.BEYOND);
        DUE.is("count(4)", x.count(4), Due.BEYOND);
    }

    private static void status() {
        NinthAir x = new NinthAir();
        for (int i = 0; i < 8; i++) {
            x.one(0, 0);
        }
        x.room(8, 0, 0);
        x.one(0, 0);
        x.as(0, 1);
        x.as(0, 1);
        x.sweeps(5);
        x.set(0, 4, 1);
        x.when(0);
        x.sleep(0);
        x.sleep(0);
        x.lays(0);
        x.sheet(0, 0, -1);
        int[] due = {1, 1, 2, 1, 3, 1, 1};
        for (int which = 0; which < 7; which++) {
            DUE.is("status(" + which + ")", x.status(which), due[which]);
        }
        DUE.is("status(-1)", x.status(-1), 10);
        DUE.is("status(7)", x.status(7), Due.BEYOND);
        DUE.is("counted from then on", x.status(-1), 11);
        DUE.is("status(-2)", x.status(-2), Due.BEYOND);
        DUE.is("counted from then on as BEYOND", x.status(0), 3);
        x.image();
        x.share(0, 9);
        x.write(9, 0, 0);
        x.undo();
        DUE.is("of longs, too", x.status(0), 5);
        x.tear();
        Due.text(x, "x");
        DUE.is("a FAULT is none", x.status(-1), 14);
    }
}
