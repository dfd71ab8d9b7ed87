import java.util.function.Consumer;
import java.util.function.Supplier;

/** Objects to begin a test with. */
final class Starts {
    private Starts() {
    }

    static NinthAir fresh() {
        return new NinthAir();
    }

    /**
     * Nothing is as at first, so that what a refused call changes shows: ROOM r has AIR 200 + r, FROST 30 + r,
     * FIRE 10 + r, TIGHT 1 + r; DOORS 1 and 4 are open; it is COLD, HOUR is 3. PEOPLE: a CHOIR of NEED 4 and HOURS 6
     * in ROOM 1, a HOLDER of NEED 5 and HOURS 7 in ROOM 1, a DREAMER of NEED 9 and HOURS 8 in ROOM 6, STIFLED.
     * Sheets: 0 of 8 bits (1, 2, 3), 1 of 16 (300 to 304), 2 of 64 (4000000000 to 4000000003), 3 MISSING.
     * THE TAPE has a text of 20 bytes; the image kept is of an earlier night; one BEYOND has been told.
     */
    static NinthAir rich() {
        NinthAir x = new NinthAir();
        x.one(0, 3);
        x.room(5, 1, 66);
        x.door(2, 1);
        x.hours(2);
        x.image();
        x.hours(1);
        x.goes(0);
        x.door(2, 0);
        for (int room = 0; room < 8; room++) {
            x.room(room, 0, 200 + room);
            x.room(room, 1, 30 + room);
            x.room(room, 2, 10 + room);
            x.room(room, 3, 1 + room);
        }
        x.door(1, 1);
        x.door(4, 1);
        x.cold(1);
        addOne(x, 4, 1, 4, 6);
        addOne(x, 3, 1, 5, 7);
        addOne(x, 5, 6, 9, 8);
        x.set(2, 4, 1);
        numbers(x, 0, 8, 1, 2, 3);
        numbers(x, 1, 16, 300, 301, 302, 303, 304);
        numbers(x, 2, 64, 4000000000L, 4000000001L, 4000000002L, 4000000003L);
        Due.feed(x, "room 6 air 77;open 5");
        x.cold(2);
        return x;
    }

    private static void addOne(NinthAir x, int kind, int room, int need, int hours) {
        int one = x.one(kind, room);
        x.set(one, 2, need);
        x.set(one, 3, hours);
    }

    static void numbers(NinthAir x, int s, int bits, long... numbers) {
        x.sheet(s, bits, numbers.length);
        for (int i = 0; i < numbers.length; i++) {
            x.write(s, i, numbers[i]);
        }
    }

    /** PEOPLE of one KIND in one ROOM, and nothing else. */
    static NinthAir people(int n, int kind, int room) {
        NinthAir x = new NinthAir();
        for (int i = 0; i < n; i++) {
            x.one(kind, room);
        }
        return x;
    }

    /** One PERSON of a NEED in a ROOM of an AIR, which has FROST that no FIRE uses up. */
    static NinthAir person(int need, int room, int air) {
        NinthAir x = people(1, 0, room);
        x.set(0, 2, need);
        x.room(room, 0, air);
        x.room(room, 1, 9999);
        return x;
    }

    /** A rich one with more PEOPLE: n of them in all, 3 or more. */
    static NinthAir richWith(int n) {
        NinthAir x = rich();
        for (int i = x.count(0); i < n; i++) {
            x.one(i % 6, i % 8);
        }
        return x;
    }

    /** Calls for 60 HOURS at most each: 9999 take 167 of the 512 that an object has. */
    static NinthAir atHour(int hour) {
        NinthAir x = new NinthAir();
        x.one(3, 2);
        x.room(4, 2, 7);
        for (int left = hour; left > 0; left -= 60) {
            x.hours(Math.min(60, left));
        }
        return x;
    }

    /** A rich one whose TAPE has just this text. */
    static NinthAir fed(String text) {
        NinthAir x = rich();
        x.wipe();
        Due.feed(x, text);
        return x;
    }

    static Supplier<NinthAir> with(Supplier<NinthAir> start, Consumer<NinthAir> more) {
        return () -> {
            NinthAir x = start.get();
            more.accept(x);
            return x;
        };
    }
}
