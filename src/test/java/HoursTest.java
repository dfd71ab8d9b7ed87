/** Promises 12 to 17: hours, now, on, when, first, well. */
final class HoursTest {
    private static final Due DUE = new Due();

    public static void main(String[] args) {
        frostAndFire();
        doorByDoor();
        peopleByNumbers();
        hours();
        now();
        on();
        when();
        first();
        well();
        DUE.end("HoursTest");
    }

    private static void frostAndFire() {
        NinthAir x = new NinthAir();
        x.cold(1);
        x.room(0, 0, 999);
        x.room(0, 3, 2);
        x.room(1, 0, 999);
        x.room(1, 2, 50);
        x.room(1, 3, 2);
        x.room(2, 3, 9);
        x.room(3, 0, 9999);
        x.room(3, 1, 9990);
        x.room(3, 3, 0);
        x.room(4, 0, 9990);
        x.room(4, 1, 100);
        x.room(4, 2, 99);
        x.room(4, 3, 9);
        x.room(5, 1, 10);
        x.room(5, 2, 40);
        x.room(5, 3, 9);
        x.room(6, 0, 1);
        x.room(6, 3, 0);
        DUE.is("hours(1)", x.hours(1), 650 + 700 + 100 + 5500 + 9999 + 110 + 1 + 80);
        roomIs(x, 0, 650, 349);
        roomIs(x, 1, 700, 299);
        roomIs(x, 2, 100, 0);
        roomIs(x, 3, 5500, 9999);
        roomIs(x, 4, 9999, 1);
        roomIs(x, 5, 110, 0);
        roomIs(x, 6, 1, 0);
        roomIs(x, 7, 80, 20);
        x.cold(0);
        x.hours(1);
        roomIs(x, 0, 650, 349);
        roomIs(x, 1, 750, 249);
        DUE.is("FIRE stays", x.roomOf(1, 2), 50);
        DUE.is("TIGHT stays", x.roomOf(1, 3), 2);
    }

    private static void roomIs(NinthAir x, int room, int air, int frost) {
        DUE.is("AIR of " + room, x.roomOf(room, 0), air);
        DUE.is("FROST of " + room, x.roomOf(room, 1), frost);
    }

    private static void doorByDoor() {
        NinthAir x = new NinthAir();
        x.room(0, 0, 100);
        x.room(1, 0, 200);
        x.room(2, 0, 15);
        x.room(3, 0, 300);
        x.room(4, 0, 297);
        x.room(6, 0, 203);
        x.door(0, 1);
        x.door(1, 1);
        x.door(3, 1);
        x.door(6, 1);
        x.hours(1);
        int[] airs = {125, 135, 55, 300, 297, 100, 178, 125};
        for (int r = 0; r < 8; r++) {
            DUE.is("AIR of " + r + " by doors", x.roomOf(r, 0), airs[r]);
        }
        x = new NinthAir();
        x.room(0, 0, 203);
        x.room(6, 0, 100);
        x.room(7, 0, 203);
        x.door(0, 1);
        x.door(6, 1);
        x.hours(1);
        DUE.is("downwards, from", x.roomOf(0, 0), 178);
        DUE.is("downwards, to", x.roomOf(1, 0), 125);
        DUE.is("upwards, to", x.roomOf(6, 0), 125);
        DUE.is("upwards, from", x.roomOf(7, 0), 178);
    }

    private static void peopleByNumbers() {
        NinthAir x = new NinthAir();
        x.room(0, 0, 10);
        x.one(0, 0);
        x.one(1, 0);
        x.one(0, 0);
        x.one(3, 0);
        x.hours(1);
        DUE.is("AIR is 0", x.roomOf(0, 0), 0);
        DUE.is("the third is STIFLED, who holds isn't", x.now(4), 4);
        for (int i = 0; i < 4; i++) {
            DUE.is("HOURS of " + i, x.of(i, 3), 1);
        }
        x.hours(1);
        DUE.is("the others are STIFLED", x.now(4), 7);
        DUE.is("HOURS of one STIFLED", x.of(2, 3), 2);
        x.hours(1);
        DUE.is("who holds isn't yet", x.now(4), 7);
        x.hours(1);
        DUE.is("who held is now", x.now(4), 15);

        x = new NinthAir();
        x.one(0, 0);
        x.one(0, 0);
        x.room(0, 0, 6);
        x.hours(1);
        DUE.is("just enough", x.now(4), 0);
        x.set(0, 3, 998);
        x.set(1, 3, 999);
        x.hours(1);
        DUE.is("HOURS become 999", x.of(0, 3), 999);
        DUE.is("HOURS stay 999", x.of(1, 3), 999);

        x = new NinthAir();
        x.room(0, 0, 0);
        x.room(0, 1, 3);
        x.room(0, 2, 3);
        x.one(0, 0);
        x.hours(1);
        DUE.is("fires burn ahead of breathing", x.of(0, 4), 0);
    }

    private static void hours() {
        NinthAir x = new NinthAir();
        DUE.is("hours(0)", x.hours(0), Due.BEYOND);
        DUE.is("hours(-1)", x.hours(-1), Due.BEYOND);
        DUE.is("hours(61)", x.hours(61), Due.BEYOND);
        DUE.is("hours(greatest)", x.hours(Integer.MAX_VALUE), Due.BEYOND);
        DUE.is("HOUR after findings", x.now(0), 0);
        x.one(0, 0);
        DUE.is("hours(30)", x.hours(30), 710);
        DUE.is("hours(3)", x.hours(3), 701);
        DUE.is("hours(60)", x.hours(60), 700);
        for (int i = 0; i < 165; i++) {
            x.hours(60);
        }
        DUE.is("HOUR", x.now(0), 9993);
        DUE.is("hours(7) is too many", x.hours(7), Due.STATE);
        DUE.is("hours(61) is BEYOND first", x.hours(61), Due.BEYOND);
        DUE.is("hours(6)", x.hours(6), 700);
        DUE.is("the last HOUR", x.now(0), 9999);
        DUE.is("hours(1)", x.hours(1), Due.STATE);
        DUE.is("STATE findings", x.status(4), 2);
        DUE.is("ON at the last HOUR", x.on(0, 60, 0), 0);
    }

    private static void now() {
        NinthAir x = new NinthAir();
        x.room(0, 1, 9);
        x.room(7, 1, 90);
        x.room(1, 2, 5);
        x.room(6, 2, 50);
        x.one(0, 0);
        x.one(1, 1);
        x.one(0, 2);
        x.set(2, 4, 1);
        x.door(1, 1);
        x.door(5, 1);
        DUE.is("HOUR", x.now(0), 0);
        DUE.is("AIR", x.now(1), 800);
        DUE.is("FROST", x.now(2), 99);
        DUE.is("FIRES", x.now(3), 55);
        DUE.is("STIFLED", x.now(4), 4);
        DUE.is("BREATHE", x.now(5), 9);
        DUE.is("open", x.now(6), 34);
        DUE.is("now(-1)", x.now(-1), Due.BEYOND);
        DUE.is("now(7)", x.now(7), Due.BEYOND);
        x.hours(2);
        DUE.is("HOUR then", x.now(0), 2);
    }

    private static void on() {
        NinthAir x = new NinthAir();
        x.cold(1);
        x.one(0, 0);
        DUE.is("on(0, 0, 0)", x.on(0, 0, 0), 100);
        DUE.is("on(0, 1, 0)", x.on(0, 1, 0), 77);
        DUE.is("on(0, 1, 1)", x.on(0, 1, 1), 20);
        DUE.is("on(0, 2, 0)", x.on(0, 2, 0), 59);
        DUE.is("on(0, 2, 1)", x.on(0, 2, 1), 35);
        DUE.is("on(7, 60, 0)", x.on(7, 60, 0), 4);
        DUE.is("nothing changes: AIR", x.roomOf(0, 0), 100);
        DUE.is("nothing changes: HOURS", x.of(0, 3), 0);
        DUE.is("nothing changes: HOUR", x.now(0), 0);
        DUE.is("on(-1, 0, 0)", x.on(-1, 0, 0), Due.BEYOND);
        DUE.is("on(8, 0, 0)", x.on(8, 0, 0), Due.BEYOND);
        DUE.is("on(0, -1, 0)", x.on(0, -1, 0), Due.BEYOND);
        DUE.is("on(0, 61, 0)", x.on(0, 61, 0), Due.BEYOND);
        DUE.is("on(0, 0, -1)", x.on(0, 0, -1), Due.BEYOND);
        DUE.is("on(0, 0, 2)", x.on(0, 0, 2), Due.BEYOND);
    }

    private static void when() {
        NinthAir x = new NinthAir();
        DUE.is("when: nobody", x.when(0), Due.BEYOND);
        x.one(0, 0);
        x.one(0, 1);
        DUE.is("100 for 3 an HOUR", x.when(0), 34);
        x.room(0, 0, 0);
        DUE.is("at once", x.when(0), 1);
        x.room(0, 0, 177);
        DUE.is("177", x.when(0), 60);
        x.room(0, 0, 180);
        DUE.is("180: not in 60", x.when(0), Due.NONE);
        x.room(0, 0, 9999);
        DUE.is("9999: not for long", x.when(0), Due.NONE);
        x.room(0, 0, 180);
        DUE.is("the other one", x.when(1), 34);
        x.set(0, 4, 1);
        DUE.is("STIFLED now", x.when(0), Due.STATE);
        DUE.is("when(2)", x.when(2), Due.BEYOND);
        DUE.is("when(-1)", x.when(-1), Due.BEYOND);
        DUE.is("nothing changes", x.now(1), 180 + 700);
        DUE.is("nobody else is STIFLED", x.now(4), 1);
    }

    private static void first() {
        NinthAir x = new NinthAir();
        DUE.is("first: nobody", x.first(), Due.NONE);
        x.one(0, 0);
        x.one(0, 1);
        x.one(0, 2);
        DUE.is("of several the least", x.first(), 0);
        x.room(2, 0, 98);
        DUE.is("the one with less", x.first(), 2);
        x.set(2, 4, 1);
        DUE.is("not who is STIFLED now", x.first(), 0);
        for (int r = 0; r < 3; r++) {
            x.room(r, 0, 180);
        }
        DUE.is("nobody in 60", x.first(), Due.NONE);
        x.room(1, 0, 179);
        DUE.is("in the 60th", x.first(), 1);
        DUE.is("NONE findings", x.status(3), 2);
    }

    private static void well() {
        NinthAir x = new NinthAir();
        DUE.is("well: nobody", x.well(), 60);
        x.one(0, 0);
        DUE.is("well: 100 for 3 an HOUR", x.well(), 33);
        x.room(0, 0, 2);
        DUE.is("well: at once not", x.well(), 0);
        x.room(0, 0, 179);
        DUE.is("well: 179", x.well(), 59);
        x.room(0, 0, 180);
        DUE.is("well: 180", x.well(), 60);
        x.room(0, 0, 0);
        x.set(0, 4, 1);
        DUE.is("well: who is STIFLED now is left out", x.well(), 60);
        x.one(1, 1);
        DUE.is("well: but the other one", x.well(), 16);
        DUE.is("nothing changes", x.now(0), 0);
    }
}
