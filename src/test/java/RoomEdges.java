import java.util.function.Supplier;

/** Boundary cases of promises 1 to 5: a new object, room, roomOf, door, cold. */
final class RoomEdges {
    private static final Supplier<NinthAir> RICH = Starts::rich;

    private RoomEdges() {
    }

    static void all(Edges e) {
        newObject(e);
        room(e);
        roomOf(e);
        door(e);
        cold(e);
    }

    private static void newObject(Edges e) {
        String sentence = "Nobody, all ROOMS as at first; THE TAPE is empty, no image is kept.";
        e.test(1, sentence, "nobody");
        NinthAir x = new NinthAir();
        e.is("count(0)", x.count(0), 0);
        e.keeps("of(0, 0)", Starts::fresh, y -> y.of(0, 0), Due.BEYOND);
        e.test(1, sentence, "all ROOMS as at first");
        for (int room = 0; room < 8; room += 7) {
            e.is("AIR of " + room, x.roomOf(room, 0), 100);
            e.is("FROST of " + room, x.roomOf(room, 1), 0);
            e.is("FIRE of " + room, x.roomOf(room, 2), 0);
            e.is("TIGHT of " + room, x.roomOf(room, 3), 5);
        }
        e.is("AIR of all", x.now(1), 800);
        e.is("TIGHT of all", x.count(3), 40);
        e.test(1, sentence, "THE TAPE is empty");
        e.is("count(1)", x.count(1), 0);
        e.is("wipe()", x.wipe(), 0);
        e.is("text()", x.text(), -1);
        e.test(1, sentence, "no image is kept");
        e.keeps("undo()", Starts::fresh, y -> y.undo(), Due.NONE);
        e.keeps("tear()", Starts::fresh, y -> y.tear(), 0);
        e.test(1, sentence, "no finding has been told");
        for (int which = -1; which < 7; which++) {
            e.is("status(" + which + ")", new NinthAir().status(which), 0);
        }
        e.test(1, sentence, "one object knows nothing of another");
        Starts.rich().image();
        e.same("another object", new NinthAir(), new NinthAir());
        e.is("AIR of 0", new NinthAir().roomOf(0, 0), 100);
    }

    private static void room(Edges e) {
        String becomes = "AIR (what 0), FROST (1), FIRE (2), TIGHT (3) of a ROOM becomes v: what it was.";
        int[] was = {207, 37, 17, 8};
        int[] most = {9999, 9999, 99, 9};
        for (int i = 0; i < 4; i++) {
            int what = i;
            e.test(2, becomes, "what " + what + " of the last ROOM becomes the least and the most");
            for (int v : new int[] {0, most[what]}) {
                NinthAir x = e.allowed("room(7, " + what + ", " + v + ")", RICH, y -> y.room(7, what, v), was[what]);
                e.is("then", x.roomOf(7, what), v);
                e.is("put back", x.room(7, what, was[what]), v);
                e.same("room() and back", x, Starts.rich());
            }
        }
        e.test(2, "BEYOND.", "ROOM 0 to 7");
        e.range("room(v, 0, 5)", RICH, (x, v) -> x.room(v, 0, 5), 0, 200, 7, 207);
        e.test(2, "BEYOND.", "what 0 to 3");
        e.range("room(2, v, 5)", RICH, (x, v) -> x.room(2, v, 5), 0, 202, 3, 3);
        e.test(2, "BEYOND.", "AIR 0 to 9999");
        e.range("room(2, 0, v)", RICH, (x, v) -> x.room(2, 0, v), 0, 202, 9999, 202);
        e.test(2, "BEYOND.", "FROST 0 to 9999");
        e.range("room(2, 1, v)", RICH, (x, v) -> x.room(2, 1, v), 0, 32, 9999, 32);
        e.test(2, "BEYOND.", "FIRE 0 to 99");
        e.range("room(2, 2, v)", RICH, (x, v) -> x.room(2, 2, v), 0, 12, 99, 12);
        e.test(2, "BEYOND.", "TIGHT 0 to 9");
        e.range("room(2, 3, v)", RICH, (x, v) -> x.room(2, 3, v), 0, 3, 9, 3);
        e.test(2, "BEYOND.", "v 0 to 99 of what 2 isn't asked by the bounds of what 0, nor of what 3");
        e.keeps("room(2, 2, 9999)", RICH, x -> x.room(2, 2, 9999), Due.BEYOND);
        e.keeps("room(2, 3, 99)", RICH, x -> x.room(2, 3, 99), Due.BEYOND);
        e.allowed("room(2, 2, 10)", RICH, x -> x.room(2, 2, 10), 12);
    }

    private static void roomOf(Edges e) {
        String sentence = "Of a ROOM: what 0 to 3 as of room(), 4 PEOPLE in it, as a set, "
                + "5 what all in it BREATHE together.";
        e.test(3, sentence, "what 0 to 3");
        int[] of7 = {207, 37, 17, 8, 0, 0};
        for (int i = 0; i < 6; i++) {
            int what = i;
            e.keeps("roomOf(7, " + what + ")", RICH, x -> x.roomOf(7, what), of7[what]);
        }
        e.test(3, sentence, "what 4: nobody, all 8, and who is STIFLED is in it");
        e.keeps("nobody", RICH, x -> x.roomOf(0, 4), 0);
        e.keeps("two", RICH, x -> x.roomOf(1, 4), 3);
        e.keeps("one STIFLED", RICH, x -> x.roomOf(6, 4), 4);
        e.keeps("all", () -> Starts.people(8, 0, 7), x -> x.roomOf(7, 4), 255);
        e.test(3, sentence, "what 5: nobody, all 8, and who is STIFLED BREATHES nothing");
        e.keeps("nobody", RICH, x -> x.roomOf(0, 5), 0);
        e.keeps("a CHOIR of NEED 4 and a HOLDER who holds no more", RICH, x -> x.roomOf(1, 5), 13);
        e.keeps("one STIFLED", RICH, x -> x.roomOf(6, 5), 0);
        e.keeps("all", () -> Starts.people(8, 4, 7), x -> x.roomOf(7, 5), 8 * 13);
        e.keeps("none of the next ROOM", () -> Starts.people(8, 4, 7), x -> x.roomOf(6, 5), 0);
        e.test(3, sentence, "what 4 and 5: all in it, and nobody of another ROOM");
        Supplier<NinthAir> apart = Starts.with(() -> Starts.people(3, 0, 5), x -> {
            x.set(0, 1, 4);
            x.set(0, 2, 10);
            x.set(2, 2, 20);
        });
        e.keeps("roomOf(4, 4)", apart, x -> x.roomOf(4, 4), 1);
        e.keeps("roomOf(5, 4)", apart, x -> x.roomOf(5, 4), 6);
        e.keeps("roomOf(4, 5)", apart, x -> x.roomOf(4, 5), 10);
        e.keeps("roomOf(5, 5)", apart, x -> x.roomOf(5, 5), 23);
        e.test(3, "BEYOND.", "ROOM 0 to 7");
        e.rangeKept("roomOf(v, 1)", RICH, (x, v) -> x.roomOf(v, 1), 0, 30, 7, 37);
        e.rangeKept("roomOf(v, 4)", RICH, (x, v) -> x.roomOf(v, 4), 0, 0, 7, 0);
        e.rangeKept("roomOf(v, 5)", RICH, (x, v) -> x.roomOf(v, 5), 0, 0, 7, 0);
        e.test(3, "BEYOND.", "what 0 to 5");
        e.rangeKept("roomOf(1, v)", RICH, (x, v) -> x.roomOf(1, v), 0, 201, 5, 13);
    }

    private static void door(Edges e) {
        String sentence = "A DOOR is open (v 1) or shut (0): what it was.";
        for (int i = 0; i < 7; i += 6) {
            int door = i;
            e.test(4, sentence, "DOOR " + door + ": open, open again, shut, shut again");
            NinthAir x = new NinthAir();
            e.is("open", x.door(door, 1), 0);
            e.is("it alone is", x.now(6), 1 << door);
            e.is("open again", x.door(door, 1), 1);
            e.is("still", x.now(6), 1 << door);
            e.is("shut", x.door(door, 0), 1);
            e.is("none is", x.now(6), 0);
            e.is("shut again", x.door(door, 0), 0);
            e.is("still none", x.now(6), 0);
        }
        e.test(4, sentence, "the others stay as they are");
        e.is("DOOR 4 is shut", e.allowed("door(4, 0)", RICH, x -> x.door(4, 0), 1).now(6), 2);
        e.is("DOOR 3 is open", e.allowed("door(3, 1)", RICH, x -> x.door(3, 1), 0).now(6), 26);
        e.test(4, "BEYOND.", "DOOR 0 to 6");
        e.range("door(v, 1)", RICH, (x, v) -> x.door(v, 1), 0, 0, 6, 0);
        e.range("door(v, 0)", RICH, (x, v) -> x.door(v, 0), 0, 0, 6, 0);
        e.test(4, "BEYOND.", "v 0 or 1");
        e.range("door(1, v)", RICH, (x, v) -> x.door(1, v), 0, 1, 1, 1);
        e.range("door(0, v)", RICH, (x, v) -> x.door(0, v), 0, 0, 1, 0);
    }

    private static void cold(Edges e) {
        String sentence = "It is COLD (1) or not (0): what it was.";
        e.test(5, sentence, "COLD, COLD again, not, not again");
        NinthAir x = new NinthAir();
        e.is("COLD", x.cold(1), 0);
        e.is("COLD again", x.cold(1), 1);
        e.is("not", x.cold(0), 1);
        e.is("not again", x.cold(0), 0);
        e.test(5, "BEYOND.", "v 0 or 1");
        e.range("cold(v)", RICH, (y, v) -> y.cold(v), 0, 1, 1, 1);
        e.range("cold(v), mild", Starts::fresh, (y, v) -> y.cold(v), 0, 0, 1, 0);
    }
}
