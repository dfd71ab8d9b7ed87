/** Promises 1 to 5: a new object, room, roomOf, door, cold. */
final class RoomsTest {
    private static final Due DUE = new Due();

    public static void main(String[] args) {
        newObject();
        room();
        roomOf();
        door();
        cold();
        DUE.end("RoomsTest");
    }

    private static void newObject() {
        NinthAir x = new NinthAir();
        int[] first = {100, 0, 0, 5, 0, 0};
        for (int r = 0; r < 8; r++) {
            for (int what = 0; what < 6; what++) {
                DUE.is("new: roomOf(" + r + ", " + what + ")", x.roomOf(r, what), first[what]);
            }
        }
        int[] now = {0, 800, 0, 0, 0, 0, 0};
        for (int what = 0; what < 7; what++) {
            DUE.is("new: now(" + what + ")", x.now(what), now[what]);
        }
        int[] count = {0, 0, 0, 40};
        for (int what = 0; what < 4; what++) {
            DUE.is("new: count(" + what + ")", x.count(what), count[what]);
        }
        for (int which = -1; which < 7; which++) {
            DUE.is("new: status(" + which + ")", x.status(which), 0);
        }
        DUE.is("new: cold(0)", x.cold(0), 0);
        DUE.is("new: wipe()", x.wipe(), 0);
        DUE.is("new: tear()", x.tear(), 0);
        DUE.is("new: undo()", x.undo(), Due.NONE);
        for (int s = 0; s < 4; s++) {
            DUE.is("new: write(" + s + ", 0, 1)", x.write(s, 0, 1), Due.MISSING);
        }
    }

    private static void room() {
        NinthAir x = new NinthAir();
        int[] first = {100, 0, 0, 5};
        int[] most = {9999, 9999, 99, 9};
        for (int r = 0; r < 8; r += 7) {
            for (int what = 0; what < 4; what++) {
                DUE.is("room: most", x.room(r, what, most[what]), first[what]);
                DUE.is("room: above most", x.room(r, what, most[what] + 1), Due.BEYOND);
                DUE.is("room: below 0", x.room(r, what, -1), Due.BEYOND);
                DUE.is("room: stays", x.roomOf(r, what), most[what]);
                DUE.is("room: 0", x.room(r, what, 0), most[what]);
                DUE.is("room: is 0", x.roomOf(r, what), 0);
            }
        }
        DUE.is("room(3, 0, 7)", x.room(3, 0, 7), 100);
        DUE.is("only that room", x.now(1), 5 * 100 + 7);
        DUE.is("room(-1, 0, 0)", x.room(-1, 0, 0), Due.BEYOND);
        DUE.is("room(8, 0, 0)", x.room(8, 0, 0), Due.BEYOND);
        DUE.is("room(0, -1, 0)", x.room(0, -1, 0), Due.BEYOND);
        DUE.is("room(0, 4, 0)", x.room(0, 4, 0), Due.BEYOND);
        DUE.is("room: least int", x.room(Integer.MIN_VALUE, Integer.MIN_VALUE, Integer.MIN_VALUE), Due.BEYOND);
        DUE.is("room: findings", x.status(0), 16 + 5);
    }

    private static void roomOf() {
        NinthAir x = new NinthAir();
        x.room(2, 0, 11);
        x.room(2, 1, 22);
        x.room(2, 2, 33);
        x.room(2, 3, 4);
        x.one(0, 2);
        x.one(0, 1);
        x.one(1, 2);
        DUE.is("roomOf AIR", x.roomOf(2, 0), 11);
        DUE.is("roomOf FROST", x.roomOf(2, 1), 22);
        DUE.is("roomOf FIRE", x.roomOf(2, 2), 33);
        DUE.is("roomOf TIGHT", x.roomOf(2, 3), 4);
        DUE.is("roomOf PEOPLE", x.roomOf(2, 4), 5);
        DUE.is("roomOf BREATHE", x.roomOf(2, 5), 9);
        DUE.is("roomOf PEOPLE of 1", x.roomOf(1, 4), 2);
        DUE.is("roomOf BREATHE of 0", x.roomOf(0, 5), 0);
        x.set(2, 4, 1);
        DUE.is("roomOf PEOPLE with one STIFLED", x.roomOf(2, 4), 5);
        DUE.is("roomOf BREATHE with one STIFLED", x.roomOf(2, 5), 3);
        DUE.is("roomOf(-1, 0)", x.roomOf(-1, 0), Due.BEYOND);
        DUE.is("roomOf(8, 4)", x.roomOf(8, 4), Due.BEYOND);
        DUE.is("roomOf(0, -1)", x.roomOf(0, -1), Due.BEYOND);
        DUE.is("roomOf(0, 6)", x.roomOf(0, 6), Due.BEYOND);
    }

    private static void door() {
        NinthAir x = new NinthAir();
        DUE.is("door(0, 1)", x.door(0, 1), 0);
        DUE.is("door(6, 1)", x.door(6, 1), 0);
        DUE.is("doors open", x.now(6), 65);
        DUE.is("door(6, 1) again", x.door(6, 1), 1);
        DUE.is("doors still open", x.now(6), 65);
        DUE.is("door(0, 0)", x.door(0, 0), 1);
        DUE.is("door(0, 0) again", x.door(0, 0), 0);
        DUE.is("door(-1, 0)", x.door(-1, 0), Due.BEYOND);
        DUE.is("door(7, 1)", x.door(7, 1), Due.BEYOND);
        DUE.is("door(0, 2)", x.door(0, 2), Due.BEYOND);
        DUE.is("door(0, -1)", x.door(0, -1), Due.BEYOND);
        DUE.is("doors after findings", x.now(6), 64);
    }

    private static void cold() {
        NinthAir x = new NinthAir();
        DUE.is("cold(1)", x.cold(1), 0);
        DUE.is("cold(1) again", x.cold(1), 1);
        DUE.is("cold(2)", x.cold(2), Due.BEYOND);
        DUE.is("cold(-1)", x.cold(-1), Due.BEYOND);
        DUE.is("cold(0)", x.cold(0), 1);
        DUE.is("cold(0) again", x.cold(0), 0);
    }
}
