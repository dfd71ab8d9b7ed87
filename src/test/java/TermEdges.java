import java.util.function.Supplier;
import java.util.function.ToLongFunction;

/** Boundary cases of "What it is" and of the Terms, but for THE TEXT of a NIGHT (TextEdges). */
final class TermEdges {
    private static final String ROOMS = "ROOMS 0 to 7, in a row, each with AIR (0 to 9999; 100 at first), "
            + "FROST (0 to 9999; 0 at first), FIRE (0 to 99; 0 at first), TIGHT (0 to 9; 5 at first).";
    private static final String DOORS =
            "DOORS 0 to 6: between ROOMS of that number and the next one, open or shut (at first).";
    private static final String FALLS = "AN HOUR goes: first, if it is COLD, in each ROOM AIR times (9 less TIGHT) "
            + "by 20 of its AIR becomes FROST.";
    private static final String BURNS =
            "Then in each ROOM as much FROST becomes AIR as its FIRE is (no more than there is).";
    private static final String MIXES = "Then, DOOR by DOOR, if it is open: a fourth of how much more AIR one of "
            + "both ROOMS has goes from it to the other one.";
    private static final String LOST = "(What would be above 9999 is lost.)";
    private static final String BREATHE = "Then PEOPLE, by numbers: what each BREATHES goes from the AIR of its "
            + "ROOM; if there is less, AIR is 0, and it is STIFLED.";
    private static final String ON = "ON: n HOURS go on with all as it is; nothing changes.";
    private static final String WELL = "WELL for n HOURS: if nobody who isn't STIFLED now is ON n HOURS.";
    private static final String SHEETS =
            "SHEETS 0 to 3 are rows of at most 40 numbers of 8, 16 or 64 bits, or MISSING (at first).";

    private TermEdges() {
    }

    static void all(Edges e) {
        calls(e);
        findings(e);
        order(e);
        quotients(e);
        sets(e);
        rooms(e);
        doors(e);
        coldAndHour(e);
        people(e);
        breathes(e);
        choir(e);
        falls(e);
        burns(e);
        mixes(e);
        lost(e);
        breathe(e);
        hoursOfEach(e);
        on(e);
        well(e);
        sheets(e);
    }

    private static void calls(Edges e) {
        String sentence = "An object is used for at most 512 calls after it has been made;";
        e.test(0, sentence, "the 512th call answers what is so");
        NinthAir x = new NinthAir();
        for (int i = 1; i <= 511; i++) {
            x.room(0, 0, i);
        }
        e.is("the 512th call, roomOf(0, 0)", x.roomOf(0, 0), 511);
        e.test(0, sentence, "the 512th call has all findings counted");
        x = new NinthAir();
        for (int i = 1; i <= 511; i++) {
            x.room(8, 0, i);
        }
        e.is("the 512th call, status(-1)", x.status(-1), 511);
    }

    private static void findings(Edges e) {
        String sentence = "FINDINGS are answers below -1000000000: -1000000001 BEYOND, -1000000002 FULL, "
                + "-1000000003 KIND, -1000000004 NONE, -1000000005 STATE, -1000000006 MISSING, -1000000007 SIZE "
                + "(in longs, too).";
        Supplier<NinthAir> rich = Starts::rich;
        e.test(0, sentence, "BEYOND");
        e.keeps("cold(2)", rich, x -> x.cold(2), -1000000001);
        e.allowed("cold(1)", rich, x -> x.cold(1), 1);
        e.test(0, sentence, "FULL");
        e.keeps("a 9th", () -> Starts.richWith(8), x -> x.one(0, 0), -1000000002);
        e.allowed("an 8th", () -> Starts.richWith(7), x -> x.one(0, 0), 7);
        e.test(0, sentence, "KIND");
        e.keeps("a CHOIR as a SLEEPER", rich, x -> x.as(0, 2), -1000000003);
        e.allowed("a CHOIR as a DANCER", rich, x -> x.as(0, 1), 4);
        e.test(0, sentence, "NONE");
        e.keeps("undo()", Starts.with(rich, x -> x.tear()), x -> x.undo(), -1000000004);
        e.allowed("undo()", rich, x -> x.undo(), 1);
        e.test(0, sentence, "STATE");
        e.keeps("sleep(2)", rich, x -> x.sleep(2), -1000000005);
        e.allowed("sleep(2)", Starts.with(Starts::fresh, x -> {
            x.one(0, 0);
            x.one(0, 0);
            x.one(0, 3);
        }), x -> x.sleep(2), 1);
        e.test(0, sentence, "MISSING");
        e.keeps("lays(3)", rich, x -> x.lays(3), -1000000006);
        e.allowed("lays(0)", rich, x -> x.lays(0), 3);
        e.test(0, sentence, "SIZE");
        e.keeps("sheet(0, 8, -1)", rich, x -> x.sheet(0, 8, -1), -1000000007);
        e.allowed("sheet(0, 8, 0)", rich, x -> x.sheet(0, 8, 0), 0);
        e.test(0, sentence, "in longs, too");
        e.keeps("share(3, 3)", rich, x -> x.share(3, 3), -1000000001L);
        e.keeps("write(4, 0, 0)", rich, x -> x.write(4, 0, 0), -1000000001L);
        e.keeps("write(3, 0, 0)", rich, x -> x.write(3, 0, 0), -1000000006L);
    }

    private static void order(Edges e) {
        String sentence = "Each act tells its findings in the order in which they are asked; "
                + "one that answers a finding changes nothing but status().";
        e.test(0, sentence, "with all wrong it is the first that is asked, then the next one");
        Supplier<NinthAir> rich = Starts::rich;
        Supplier<NinthAir> full = () -> Starts.richWith(8);
        e.keeps("one: BEYOND, then FULL", full, x -> x.one(6, 8), Due.BEYOND);
        e.keeps("one: FULL", full, x -> x.one(5, 7), Due.FULL);
        e.keeps("as: BEYOND, then KIND", rich, x -> x.as(3, 6), Due.BEYOND);
        e.keeps("as: KIND", rich, x -> x.as(2, 4), Due.KIND);
        e.keeps("hours: BEYOND, then STATE", () -> Starts.atHour(9999), x -> x.hours(61), Due.BEYOND);
        e.keeps("hours: STATE", () -> Starts.atHour(9999), x -> x.hours(60), Due.STATE);
        e.keeps("when: BEYOND, then STATE", rich, x -> x.when(3), Due.BEYOND);
        e.keeps("when: STATE", rich, x -> x.when(2), Due.STATE);
        e.keeps("sheet: BEYOND, then SIZE", rich, x -> x.sheet(4, 9, -1), Due.BEYOND);
        e.keeps("sheet: SIZE", rich, x -> x.sheet(3, 16, -1), Due.SIZE);
        e.keeps("copy: BEYOND, then MISSING", rich, x -> x.copy(3, -1, 4, -1, -1), Due.BEYOND);
        e.keeps("copy: MISSING, then KIND", rich, x -> x.copy(3, -1, 0, -1, -1), Due.MISSING);
        e.keeps("copy: KIND, then BEYOND", rich, x -> x.copy(1, -1, 0, -1, -1), Due.KIND);
        e.keeps("copy: BEYOND", rich, x -> x.copy(1, -1, 1, -1, -1), Due.BEYOND);
    }

    private static void quotients(Edges e) {
        String sentence = "Quotients are cut.";
        e.test(0, sentence, "half of NEED");
        NinthAir x = Starts.people(1, 2, 0);
        e.is("half of 3, and 1", x.of(0, 5), 2);
        x.set(0, 2, 4);
        e.is("half of 4, and 1", x.of(0, 5), 3);
        e.test(0, sentence, "by 20");
        after(e, "19 by 20", room0(19, 0, 0, 8, 1), 19, 0);
        after(e, "20 by 20", room0(20, 0, 0, 8, 1), 19, 1);
        after(e, "39 by 20", room0(39, 0, 0, 8, 1), 38, 1);
        e.test(0, sentence, "a fourth, either way");
        mixed(e, 103, 100, 103, 100);
        mixed(e, 100, 103, 100, 103);
        mixed(e, 104, 100, 103, 101);
        mixed(e, 100, 104, 101, 103);
        mixed(e, 107, 100, 106, 101);
        mixed(e, 100, 107, 101, 106);
    }

    private static void sets(Edges e) {
        String sentence = "Sets are told by bits.";
        e.test(0, sentence, "the first and the last of PEOPLE");
        NinthAir x = Starts.people(8, 0, 3);
        for (int i = 1; i < 7; i++) {
            x.set(i, 1, 4);
        }
        e.is("roomOf(3, 4)", x.roomOf(3, 4), 129);
        e.is("roomOf(4, 4)", x.roomOf(4, 4), 126);
        x.set(7, 4, 1);
        e.is("now(4) of the last", x.now(4), 128);
        x.set(0, 4, 1);
        e.is("now(4) of both", x.now(4), 129);
        e.test(0, sentence, "the first and the last DOOR");
        x = new NinthAir();
        x.door(6, 1);
        e.is("now(6) of the last", x.now(6), 64);
        x.door(0, 1);
        e.is("now(6) of both", x.now(6), 65);
        e.test(0, sentence, "the first and the last ROOM");
        x = new NinthAir();
        x.room(7, 1, 5);
        e.is("sweeps(5)", x.sweeps(5), 128);
        x.room(0, 1, 3);
        e.is("sweeps(8)", x.sweeps(8), 129);
    }

    private static void rooms(Edges e) {
        e.test(0, ROOMS, "at first");
        NinthAir x = new NinthAir();
        int[] first = {100, 0, 0, 5};
        for (int room = 0; room < 8; room++) {
            for (int what = 0; what < 4; what++) {
                e.is("roomOf(" + room + ", " + what + ")", x.roomOf(room, what), first[what]);
            }
        }
        String[] names = {"AIR", "FROST", "FIRE", "TIGHT"};
        int[] most = {9999, 9999, 99, 9};
        int[] was = {203, 33, 13, 4};
        for (int i = 0; i < 4; i++) {
            int what = i;
            e.test(0, ROOMS, names[what] + " 0 to " + most[what]);
            e.range("room(3, " + what + ", v)", Starts::rich, (y, v) -> y.room(3, what, v),
                    0, was[what], most[what], was[what]);
        }
        e.test(0, ROOMS, "ROOMS 0 to 7");
        e.rangeKept("roomOf(v, 0)", Starts::rich, (y, v) -> y.roomOf(v, 0), 0, 200, 7, 207);
        e.test(0, ROOMS, "in a row, not around: no AIR goes between ROOMS 7 and 0");
        x = new NinthAir();
        for (int door = 0; door < 7; door++) {
            x.door(door, 1);
        }
        x.room(0, 0, 0);
        x.room(7, 0, 9999);
        x.hours(1);
        e.is("AIR of 0: a fourth of 100", x.roomOf(0, 0), 25);
        e.is("AIR of all", x.now(1), 6 * 100 + 9999);
    }

    private static void doors(Edges e) {
        e.test(0, DOORS, "shut at first");
        NinthAir x = new NinthAir();
        e.is("now(6)", x.now(6), 0);
        e.test(0, DOORS, "DOORS 0 to 6");
        e.range("door(v, 0)", Starts.with(Starts::rich, y -> {
            y.door(0, 1);
            y.door(6, 1);
        }), (y, v) -> y.door(v, 0), 0, 1, 6, 1);
        for (int i = 0; i < 7; i += 6) {
            int door = i;
            e.test(0, DOORS, "DOOR " + door + " is between ROOMS " + door + " and " + (door + 1));
            x = new NinthAir();
            x.room(door, 0, 500);
            x.door(door, 1);
            x.hours(1);
            e.is("AIR ahead of it", x.roomOf(door, 0), 400);
            e.is("AIR behind it", x.roomOf(door + 1, 0), 200);
            e.is("AIR of all", x.now(1), 1200);
        }
    }

    private static void coldAndHour(Edges e) {
        e.test(0, "COLD or not (at first).", "at first");
        NinthAir x = new NinthAir();
        x.hours(1);
        e.is("no AIR becomes FROST", x.now(2), 0);
        e.is("cold(1)", x.cold(1), 0);
        x.hours(1);
        e.is("now it does", x.now(2), 160);
        String sentence = "HOUR: 0 at first (9999 at most).";
        e.test(0, sentence, "0 at first");
        e.is("now(0)", new NinthAir().now(0), 0);
        e.test(0, sentence, "9999 at most");
        x = e.allowed("hours(1)", () -> Starts.atHour(9998), y -> y.hours(1), 700);
        e.is("now(0)", x.now(0), 9999);
        e.keeps("hours(1) at 9999", () -> Starts.atHour(9999), y -> y.hours(1), Due.STATE);
        e.keeps("hours(2) at 9998", () -> Starts.atHour(9998), y -> y.hours(2), Due.STATE);
    }

    private static void people(Edges e) {
        String sentence = "PEOPLE 0, 1, .. (at most 8) are of KINDS: 0 PERSON, 1 DANCER under PERSON, "
                + "2 SLEEPER under PERSON, 3 HOLDER under PERSON, 4 CHOIR under DANCER, 5 DREAMER under SLEEPER; "
                + "each in a ROOM, with NEED (1 to 20; 3 at first), HOURS (that went by since it came; 0 at first, "
                + "999 at most), STIFLED or not (at first).";
        e.test(0, sentence, "PEOPLE 0, 1, ..");
        e.allowed("the first", Starts::fresh, x -> x.one(0, 0), 0);
        e.test(0, sentence, "at most 8");
        e.allowed("an 8th", () -> Starts.richWith(7), x -> x.one(0, 0), 7);
        e.keeps("a 9th", () -> Starts.richWith(8), x -> x.one(0, 0), Due.FULL);
        e.test(0, sentence, "KINDS 0 to 5");
        e.range("turn(1, v)", Starts::rich, (x, v) -> x.turn(1, v), 0, 3, 5, 3);
        e.test(0, sentence, "each KIND is of those above it, and of no other");
        String[] above = {"0", "01", "02", "03", "014", "025"};
        for (int k = 0; k < 6; k++) {
            for (int w = 0; w < 6; w++) {
                int kind = k;
                int wanted = w;
                e.keeps("KIND " + kind + " as " + wanted, () -> Starts.people(1, kind, 0), x -> x.as(0, wanted),
                        above[kind].indexOf('0' + wanted) >= 0 ? 3 : Due.KIND);
            }
        }
        e.test(0, sentence, "NEED 1 to 20");
        e.range("set(1, 2, v)", Starts::rich, (x, v) -> x.set(1, 2, v), 1, 5, 20, 5);
        e.test(0, sentence, "HOURS 0 to 999");
        e.range("set(1, 3, v)", Starts::rich, (x, v) -> x.set(1, 3, v), 0, 7, 999, 7);
        e.test(0, sentence, "at first");
        int[] first = {4, 7, 3, 0, 0};
        NinthAir x = Starts.richWith(8);
        x.goes(7);
        x.one(4, 7);
        for (int what = 0; what < 5; what++) {
            e.is("of(7, " + what + ")", x.of(7, what), first[what]);
        }
        e.test(0, sentence, "HOURS that went by since it came");
        x = Starts.people(1, 0, 0);
        x.hours(5);
        x.one(0, 1);
        x.hours(2);
        e.is("HOURS of the first", x.of(0, 3), 7);
        e.is("HOURS of the later one", x.of(1, 3), 2);
    }

    private static void breath(Edges e, int kind, int need, int hours, int due) {
        NinthAir x = Starts.people(1, kind, 5);
        x.set(0, 2, need);
        x.set(0, 3, hours);
        e.is("KIND " + kind + " of NEED " + need + " and HOURS " + hours, x.of(0, 5), due);
        x.set(0, 4, 1);
        e.is("the same, STIFLED", x.of(0, 5), 0);
    }

    private static void breathes(Edges e) {
        e.test(0, "BREATHES: PERSON: NEED.", "of the least and the most NEED");
        breath(e, 0, 1, 0, 1);
        breath(e, 0, 20, 0, 20);
        e.test(0, "DANCER: twice as PERSON.", "of the least and the most NEED");
        breath(e, 1, 1, 0, 2);
        breath(e, 1, 20, 0, 40);
        e.test(0, "SLEEPER: half as PERSON, and 1.", "of the least and the most NEED");
        breath(e, 2, 1, 0, 1);
        breath(e, 2, 2, 0, 2);
        breath(e, 2, 19, 0, 10);
        breath(e, 2, 20, 0, 11);
        e.test(0, "HOLDER: 0 as long as HOURS is below NEED; else as PERSON.", "HOURS below NEED, as NEED, above it");
        breath(e, 3, 1, 0, 0);
        breath(e, 3, 1, 1, 1);
        breath(e, 3, 20, 19, 0);
        breath(e, 3, 20, 20, 20);
        breath(e, 3, 20, 21, 20);
        breath(e, 3, 20, 999, 20);
        e.test(0, "DREAMER: as SLEEPER, and 1.", "of the least and the most NEED");
        breath(e, 5, 1, 0, 2);
        breath(e, 5, 20, 0, 12);
        e.test(0, "Who is STIFLED BREATHES nothing.", "STIFLED, and no longer");
        for (int kind = 0; kind < 6; kind++) {
            NinthAir x = Starts.people(1, kind, 0);
            x.set(0, 3, 3);
            x.set(0, 4, 1);
            e.is("KIND " + kind + ", STIFLED", x.of(0, 5), 0);
            x.set(0, 4, 0);
            e.is("KIND " + kind + ", no longer", x.of(0, 5), new int[] {3, 6, 2, 3, 6, 3}[kind]);
        }
    }

    private static void choir(Edges e) {
        e.test(0, "CHOIR: as DANCER, and 1 for each other CHOIR in its ROOM that isn't STIFLED.",
                "alone, with 7 more, with others that don't count");
        breath(e, 4, 1, 0, 2);
        breath(e, 4, 20, 0, 40);
        NinthAir x = Starts.people(8, 4, 0);
        e.is("with 7 more, the first", x.of(0, 5), 13);
        e.is("with 7 more, the last", x.of(7, 5), 13);
        x.set(7, 4, 1);
        e.is("one of them is STIFLED", x.of(0, 5), 12);
        x.set(6, 1, 1);
        e.is("one is in the next ROOM", x.of(0, 5), 11);
        e.is("that one, alone there", x.of(6, 5), 6);
        for (int kind = 0; kind < 6; kind++) {
            x.turn(5, kind);
            e.is("one is of KIND " + kind, x.of(0, 5), kind == 4 ? 11 : 10);
        }
    }

    private static NinthAir room0(int air, int frost, int fire, int tight, int cold) {
        NinthAir x = new NinthAir();
        x.room(0, 0, air);
        x.room(0, 1, frost);
        x.room(0, 2, fire);
        x.room(0, 3, tight);
        x.cold(cold);
        return x;
    }

    /** AIR and FROST of ROOM 0 when an HOUR has gone. */
    private static void after(Edges e, String what, NinthAir x, int air, int frost) {
        x.hours(1);
        e.is(what + ": AIR", x.roomOf(0, 0), air);
        e.is(what + ": FROST", x.roomOf(0, 1), frost);
    }

    private static void falls(Edges e) {
        e.test(0, FALLS, "TIGHT 9 holds all, TIGHT 8 doesn't");
        after(e, "TIGHT 9", room0(9999, 0, 0, 9, 1), 9999, 0);
        after(e, "TIGHT 8", room0(9999, 0, 0, 8, 1), 9500, 499);
        e.test(0, FALLS, "TIGHT 0 holds least");
        after(e, "TIGHT 1", room0(100, 0, 0, 1, 1), 60, 40);
        after(e, "TIGHT 0", room0(100, 0, 0, 0, 1), 55, 45);
        e.test(0, FALLS, "AIR that is too little to fall, and the most");
        after(e, "no AIR", room0(0, 0, 0, 0, 1), 0, 0);
        after(e, "18 by 20", room0(2, 0, 0, 0, 1), 2, 0);
        after(e, "27 by 20", room0(3, 0, 0, 0, 1), 2, 1);
        after(e, "AIR 9999", room0(9999, 0, 0, 0, 1), 5500, 4499);
        e.test(0, FALLS, "if it is COLD");
        after(e, "COLD", room0(20, 0, 0, 0, 1), 11, 9);
        after(e, "not COLD", room0(20, 0, 0, 0, 0), 20, 0);
        e.test(0, FALLS, "in each ROOM");
        NinthAir x = new NinthAir();
        x.cold(1);
        x.hours(1);
        for (int room = 0; room < 8; room++) {
            e.is("AIR of " + room, x.roomOf(room, 0), 80);
            e.is("FROST of " + room, x.roomOf(room, 1), 20);
        }
    }

    private static void burns(Edges e) {
        e.test(0, BURNS, "FIRE below FROST, as FROST, above it");
        after(e, "FIRE 9", room0(0, 10, 9, 5, 0), 9, 1);
        after(e, "FIRE 10", room0(0, 10, 10, 5, 0), 10, 0);
        after(e, "FIRE 11", room0(0, 10, 11, 5, 0), 10, 0);
        after(e, "FIRE 0", room0(0, 10, 0, 5, 0), 0, 10);
        after(e, "FIRE 99", room0(0, 100, 99, 5, 0), 99, 1);
        e.test(0, BURNS, "what has just become FROST is there");
        after(e, "9 fall, FIRE 8", room0(20, 0, 8, 0, 1), 19, 1);
        after(e, "9 fall, FIRE 9", room0(20, 0, 9, 0, 1), 20, 0);
        after(e, "9 fall, FIRE 10", room0(20, 0, 10, 0, 1), 20, 0);
        e.test(0, BURNS, "in each ROOM");
        NinthAir x = new NinthAir();
        for (int room = 0; room < 8; room++) {
            x.room(room, 1, 5);
            x.room(room, 2, room);
        }
        x.hours(1);
        for (int room = 0; room < 8; room++) {
            e.is("AIR of " + room, x.roomOf(room, 0), 100 + Math.min(5, room));
        }
    }

    private static void mixed(Edges e, int left, int right, int leftThen, int rightThen) {
        NinthAir x = new NinthAir();
        x.room(3, 0, left);
        x.room(4, 0, right);
        x.door(3, 1);
        x.hours(1);
        e.is("of " + left + " and " + right + ", the one ahead", x.roomOf(3, 0), leftThen);
        e.is("of " + left + " and " + right + ", the one behind", x.roomOf(4, 0), rightThen);
    }

    private static void mixes(Edges e) {
        e.test(0, MIXES, "as much, 3 more, 4 more, 9999 more");
        mixed(e, 50, 50, 50, 50);
        mixed(e, 53, 50, 53, 50);
        mixed(e, 54, 50, 53, 51);
        mixed(e, 50, 54, 51, 53);
        mixed(e, 9999, 0, 7500, 2499);
        mixed(e, 0, 9999, 2499, 7500);
        e.test(0, MIXES, "if it is open");
        NinthAir x = new NinthAir();
        x.room(3, 0, 500);
        x.hours(1);
        e.is("shut", x.roomOf(3, 0), 500);
        x.door(3, 1);
        x.hours(1);
        e.is("open", x.roomOf(3, 0), 400);
        e.test(0, MIXES, "DOOR by DOOR: what came by one goes on by the next, and not back");
        x = new NinthAir();
        for (int room = 0; room < 8; room++) {
            x.room(room, 0, room == 2 ? 160 : 0);
        }
        for (int door = 0; door < 7; door++) {
            x.door(door, 1);
        }
        x.hours(1);
        int[] airs = {0, 40, 90, 23, 6, 1, 0, 0};
        for (int room = 0; room < 8; room++) {
            e.is("AIR of " + room, x.roomOf(room, 0), airs[room]);
        }
    }

    private static void lost(Edges e) {
        e.test(0, LOST, "FROST that becomes 9999, and more");
        after(e, "9998 and 1", room0(20, 9998, 0, 8, 1), 19, 9999);
        after(e, "9999 and 1", room0(20, 9999, 0, 8, 1), 19, 9999);
        after(e, "9998 and 2", room0(40, 9998, 0, 8, 1), 38, 9999);
        after(e, "9999 and 4499", room0(9999, 9999, 0, 0, 1), 5500, 9999);
        e.test(0, LOST, "AIR that becomes 9999, and more");
        after(e, "9998 and 1", room0(9998, 5, 1, 5, 0), 9999, 4);
        after(e, "9999 and 1", room0(9999, 5, 1, 5, 0), 9999, 4);
        after(e, "9900 and 99", room0(9900, 100, 99, 5, 0), 9999, 1);
        after(e, "9901 and 99", room0(9901, 100, 99, 5, 0), 9999, 1);
        after(e, "9999 and 99", room0(9999, 100, 99, 5, 0), 9999, 1);
    }

    /** Two of PEOPLE in ROOM 0 as an HOUR goes: AIR and those STIFLED then. */
    private static void two(Edges e, int air, int kind, int kindBehind, int airThen, int stifled) {
        NinthAir x = new NinthAir();
        x.one(kind, 0);
        x.one(kindBehind, 0);
        x.room(0, 0, air);
        x.hours(1);
        String told = "AIR " + air + ", KINDS " + kind + " and " + kindBehind;
        e.is(told + ": AIR then", x.roomOf(0, 0), airThen);
        e.is(told + ": STIFLED", x.now(4), stifled);
    }

    private static void breathe(Edges e) {
        e.test(0, BREATHE, "AIR is more, just as much, less");
        two(e, 7, 0, 0, 1, 0);
        two(e, 6, 0, 0, 0, 0);
        two(e, 5, 0, 0, 0, 2);
        two(e, 3, 0, 0, 0, 2);
        two(e, 2, 0, 0, 0, 3);
        two(e, 0, 0, 0, 0, 3);
        e.test(0, BREATHE, "by numbers: AIR that one was STIFLED in is 0 for those behind");
        two(e, 5, 0, 1, 0, 2);
        two(e, 5, 1, 0, 0, 3);
        e.test(0, BREATHE, "who BREATHES 0 isn't STIFLED by AIR 0, who BREATHES 1 is");
        two(e, 0, 3, 3, 0, 0);
        NinthAir x = Starts.person(1, 0, 0);
        x.hours(1);
        e.is("NEED 1", x.now(4), 1);
        e.test(0, BREATHE, "who is STIFLED takes nothing");
        x = Starts.people(1, 1, 0);
        x.room(0, 0, 5);
        x.set(0, 4, 1);
        x.hours(1);
        e.is("AIR", x.roomOf(0, 0), 5);
        e.test(0, BREATHE, "of its ROOM, the last one too");
        x = Starts.people(1, 0, 7);
        x.hours(1);
        e.is("AIR of 7", x.roomOf(7, 0), 97);
        e.is("AIR of all", x.now(1), 797);
    }

    private static void hoursOfEach(Edges e) {
        e.test(0, "HOURS of each is 1 more.", "999 at most; also of who is STIFLED");
        NinthAir x = Starts.people(3, 0, 0);
        x.set(0, 3, 998);
        x.set(1, 3, 999);
        x.set(2, 4, 1);
        x.hours(1);
        e.is("998 and 1", x.of(0, 3), 999);
        e.is("999 and 1", x.of(1, 3), 999);
        e.is("of one STIFLED", x.of(2, 3), 1);
        x.hours(60);
        e.is("999 and 60", x.of(0, 3), 999);
        e.test(0, "HOUR is 1 more.", "from 0, and to 9999");
        x = new NinthAir();
        x.hours(1);
        e.is("from 0", x.now(0), 1);
        x = Starts.atHour(9998);
        x.hours(1);
        e.is("to 9999", x.now(0), 9999);
    }

    private static void keepsAll(Edges e, String call, ToLongFunction<NinthAir> act) {
        e.test(0, ON, call + " changes nothing");
        e.keepsAll(call, Starts::rich, act);
        e.keepsAll(call + " of 8", () -> Starts.richWith(8), act);
    }

    private static void on(Edges e) {
        keepsAll(e, "on(1, 60, 0)", x -> x.on(1, 60, 0));
        keepsAll(e, "when(0)", x -> x.when(0));
        keepsAll(e, "first()", x -> x.first());
        keepsAll(e, "well()", x -> x.well());
        keepsAll(e, "doors()", x -> x.doors());
        keepsAll(e, "shut(40)", x -> x.shut(40));
        keepsAll(e, "fire(1, 40)", x -> x.fire(1, 40));
        keepsAll(e, "fires(1, 2, 40)", x -> x.fires(1, 2, 40));
        keepsAll(e, "sleep(0)", x -> x.sleep(0));
        keepsAll(e, "kind(0, 40)", x -> x.kind(0, 40));
        keepsAll(e, "costs(0, 40)", x -> x.costs(0, 40));
        keepsAll(e, "leaked(1, 40, 0)", x -> x.leaked(1, 40, 0));
        keepsAll(e, "read(1, 1)", x -> x.read(1, 1));
        e.test(0, ON, "with all as it is: DOORS, COLD, FIRES, PEOPLE and their HOURS");
        for (int hours : new int[] {1, 2, 7, 60}) {
            NinthAir x = Starts.rich();
            NinthAir gone = Starts.rich();
            gone.hours(hours);
            for (int room = 0; room < 8; room++) {
                e.is("AIR of " + room + " ON " + hours, x.on(room, hours, 0), gone.roomOf(room, 0));
                e.is("FROST of " + room + " ON " + hours, x.on(room, hours, 1), gone.roomOf(room, 1));
            }
        }
        e.test(0, ON, "0 HOURS: as it is");
        e.keeps("on(7, 0, 0)", Starts::rich, x -> x.on(7, 0, 0), 207);
        e.test(0, ON, "HOURS that HOUR has no place for go on, too");
        NinthAir x = Starts.atHour(9999);
        x.one(0, 0);
        e.is("on(0, 60, 0)", x.on(0, 60, 0), 0);
        e.is("on(0, 33, 0)", x.on(0, 33, 0), 1);
    }

    private static void well(Edges e) {
        e.test(0, WELL, "AIR for n HOURS, and 1 less");
        // A PERSON of NEED 3; FIRE of ROOM 5 helps nobody, so it is 0 where it is WELL.
        e.keeps("AIR 6, 2 HOURS", () -> Starts.person(3, 0, 6), x -> x.fire(5, 2), 0);
        e.keeps("AIR 6, 3 HOURS", () -> Starts.person(3, 0, 6), x -> x.fire(5, 3), Due.NONE);
        e.keeps("AIR 5, 2 HOURS", () -> Starts.person(3, 0, 5), x -> x.fire(5, 2), Due.NONE);
        e.test(0, WELL, "0 HOURS: always");
        e.keeps("AIR 0, 0 HOURS", () -> Starts.person(3, 0, 0), x -> x.fire(5, 0), 0);
        e.keeps("AIR 0, 1 HOUR", () -> Starts.person(3, 0, 0), x -> x.fire(5, 1), Due.NONE);
        e.test(0, WELL, "who is STIFLED now is left out");
        Supplier<NinthAir> stifled = Starts.with(() -> Starts.person(3, 0, 0), x -> x.set(0, 4, 1));
        e.keeps("STIFLED, 40 HOURS", stifled, x -> x.fire(5, 40), 0);
        e.keeps("nobody, 40 HOURS", Starts::fresh, x -> x.fire(5, 40), 0);
        e.keeps("but not the other one", Starts.with(stifled, x -> x.one(0, 0)), x -> x.fire(5, 1), Due.NONE);
    }

    private static void sheets(Edges e) {
        e.test(0, SHEETS, "MISSING at first");
        for (int i = 0; i < 4; i++) {
            int s = i;
            e.keeps("lays(" + s + ")", Starts::fresh, x -> x.lays(s), Due.MISSING);
        }
        e.test(0, SHEETS, "SHEETS 0 to 3");
        e.range("sheet(v, 8, 2)", Starts::rich, (x, v) -> x.sheet(v, 8, 2), 0, 2, 3, 2);
        e.test(0, SHEETS, "at most 40 numbers");
        NinthAir x = e.allowed("sheet(3, 64, 40)", Starts::rich, y -> y.sheet(3, 64, 40), 40);
        e.is("the 40th", x.write(3, 39, 1), 0);
        e.is("a 41st", x.write(3, 40, 1), Due.BEYOND);
        e.keeps("sheet(3, 64, 41)", Starts::rich, y -> y.sheet(3, 64, 41), Due.BEYOND);
        e.test(0, SHEETS, "8, 16 or 64 bits");
        for (int bits : new int[] {8, 16, 64}) {
            e.allowed("sheet(3, " + bits + ", 1)", Starts::rich, y -> y.sheet(3, bits, 1), 1);
            e.keeps("sheet(3, " + (bits - 1) + ", 1)", Starts::rich, y -> y.sheet(3, bits - 1, 1), Due.BEYOND);
            e.keeps("sheet(3, " + (bits + 1) + ", 1)", Starts::rich, y -> y.sheet(3, bits + 1, 1), Due.BEYOND);
        }
        e.keeps("sheet(3, 32, 1)", Starts::rich, y -> y.sheet(3, 32, 1), Due.BEYOND);
    }
}
