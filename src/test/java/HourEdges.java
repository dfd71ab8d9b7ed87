import java.util.function.Supplier;

/** Boundary cases of promises 12 to 17: hours, now, on, when, first, well. */
final class HourEdges {
    private static final Supplier<NinthAir> RICH = Starts::rich;

    private HourEdges() {
    }

    static void all(Edges e) {
        hours(e);
        now(e);
        on(e);
        when(e);
        first(e);
        well(e);
    }

    private static void hours(Edges e) {
        String sentence = "n HOURS go (1 to 60): AIR of all ROOMS together then.";
        e.test(12, sentence, "1 HOUR, 60 HOURS");
        Supplier<NinthAir> one = () -> Starts.person(1, 0, 100);
        e.is("HOUR", e.allowed("hours(1)", one, x -> x.hours(1), 799).now(0), 1);
        e.is("HOUR", e.allowed("hours(60)", one, x -> x.hours(60), 740).now(0), 60);
        e.test(12, sentence, "60 HOURS are as 60 times one");
        NinthAir x = Starts.rich();
        NinthAir twin = Starts.rich();
        x.hours(60);
        for (int i = 0; i < 60; i++) {
            twin.hours(1);
        }
        e.same("hours(60)", x, twin);
        e.test(12, sentence, "AIR of all at its least and its most");
        e.allowed("no AIR", Starts.with(Starts::fresh, y -> fill(y, 0)), y -> y.hours(60), 0);
        e.allowed("all AIR", Starts.with(Starts::fresh, y -> fill(y, 9999)), y -> y.hours(60), 79992);
        e.test(12, "BEYOND.", "n 1 to 60");
        e.range("hours(v)", one, (y, v) -> y.hours(v), 1, 799, 60, 740);
        for (int n : new int[] {0, 61}) {
            e.keeps("hours(" + n + ")", RICH, y -> y.hours(n), Due.BEYOND);
        }
        String state = "STATE: HOUR would be above 9999.";
        e.test(12, state, "HOUR becomes 9999 by 60, it would be 10000");
        e.is("HOUR", e.allowed("hours(60) at 9939", () -> Starts.atHour(9939), y -> y.hours(60), 700).now(0), 9999);
        e.keeps("hours(60) at 9940", () -> Starts.atHour(9940), y -> y.hours(60), Due.STATE);
        e.allowed("hours(59) at 9940", () -> Starts.atHour(9940), y -> y.hours(59), 700);
        e.test(12, state, "HOUR becomes 9999 by 1, it would be 10000");
        e.allowed("hours(1) at 9998", () -> Starts.atHour(9998), y -> y.hours(1), 700);
        e.keeps("hours(1) at 9999", () -> Starts.atHour(9999), y -> y.hours(1), Due.STATE);
        e.keeps("hours(60) at 9999", () -> Starts.atHour(9999), y -> y.hours(60), Due.STATE);
        e.test(12, state, "asked behind BEYOND");
        for (int n : new int[] {0, -1, 61, Integer.MAX_VALUE, Integer.MIN_VALUE}) {
            e.keeps("hours(" + n + ") at 9999", () -> Starts.atHour(9999), y -> y.hours(n), Due.BEYOND);
        }
    }

    private static void fill(NinthAir x, int air) {
        for (int room = 0; room < 8; room++) {
            x.room(room, 0, air);
        }
    }

    private static void now(Edges e) {
        String sentence = "What 0 HOUR, 1 AIR of all ROOMS, 2 FROST of all, 3 FIRES of all, 4 those STIFLED, as a "
                + "set, 5 what all BREATHE, 6 DOORS that are open, as a set (sums where it is of all).";
        e.test(13, sentence, "each as it is");
        int[] rich = {3, 8 * 200 + 28, 8 * 30 + 28, 8 * 10 + 28, 4, 13, 18};
        for (int i = 0; i < 7; i++) {
            int what = i;
            e.keeps("now(" + what + ")", RICH, x -> x.now(what), rich[what]);
        }
        e.test(13, sentence, "the least of each");
        Supplier<NinthAir> least = Starts.with(Starts::fresh, x -> fill(x, 0));
        for (int i = 0; i < 7; i++) {
            int what = i;
            e.keeps("now(" + what + ")", least, x -> x.now(what), 0);
        }
        e.test(13, sentence, "the most of each");
        NinthAir x = Starts.people(8, 4, 0);
        fill(x, 9999);
        for (int i = 0; i < 8; i++) {
            x.room(i, 1, 9999);
            x.room(i, 2, 99);
            x.set(i, 2, 20);
            x.door(Math.min(i, 6), 1);
        }
        int[] most = {0, 79992, 79992, 792, 0, 8 * 47, 127};
        for (int what = 0; what < 7; what++) {
            e.is("now(" + what + ")", x.now(what), most[what]);
        }
        for (int one = 0; one < 8; one++) {
            x.set(one, 4, 1);
        }
        e.is("now(4), all STIFLED", x.now(4), 255);
        e.is("now(5), all STIFLED", x.now(5), 0);
        e.is("now(0) at the last HOUR", Starts.atHour(9999).now(0), 9999);
        e.test(13, sentence, "who went away is in none of them");
        Supplier<NinthAir> went = Starts.with(() -> Starts.people(3, 4, 0), y -> {
            y.set(2, 4, 1);
            y.goes(1);
            y.goes(1);
        });
        e.keeps("now(4)", went, y -> y.now(4), 0);
        e.keeps("now(5)", went, y -> y.now(5), 6);
        e.keeps("now(5), the last went", Starts.with(() -> Starts.people(3, 0, 0), y -> y.goes(2)), y -> y.now(5), 6);
        e.test(13, "BEYOND.", "what 0 to 6");
        e.rangeKept("now(v)", RICH, (y, v) -> y.now(v), 0, 3, 6, 18);
    }

    private static void on(Edges e) {
        String sentence = "AIR (what 0), FROST (1) of a ROOM ON n HOURS (0 to 60).";
        // A PERSON of NEED 1 in ROOM 7 by a FIRE of 2: AIR 1 more an HOUR, FROST 2 less.
        Supplier<NinthAir> fire = Starts.with(() -> Starts.person(1, 7, 100), x -> x.room(7, 2, 2));
        e.test(14, sentence, "0 HOURS: as it is");
        e.keeps("on(7, 0, 0)", fire, x -> x.on(7, 0, 0), 100);
        e.keeps("on(7, 0, 1)", fire, x -> x.on(7, 0, 1), 9999);
        e.test(14, sentence, "60 HOURS");
        e.keeps("on(7, 59, 0)", fire, x -> x.on(7, 59, 0), 159);
        e.keeps("on(7, 60, 0)", fire, x -> x.on(7, 60, 0), 160);
        e.keeps("on(7, 60, 1)", fire, x -> x.on(7, 60, 1), 9879);
        e.test(14, sentence, "also as HOUR is 9999");
        e.keeps("on(2, 60, 0)", () -> Starts.atHour(9999), x -> x.on(2, 60, 0), 0);
        e.keeps("on(1, 60, 0)", () -> Starts.atHour(9999), x -> x.on(1, 60, 0), 100);
        e.test(14, "BEYOND.", "ROOM 0 to 7");
        e.rangeKept("on(v, 1, 0)", fire, (x, v) -> x.on(v, 1, 0), 0, 100, 7, 101);
        e.test(14, "BEYOND.", "n 0 to 60");
        e.rangeKept("on(7, v, 0)", fire, (x, v) -> x.on(7, v, 0), 0, 100, 60, 160);
        e.rangeKept("on(7, v, 1)", fire, (x, v) -> x.on(7, v, 1), 0, 9999, 60, 9879);
        e.test(14, "BEYOND.", "what 0 or 1");
        e.rangeKept("on(7, 1, v)", fire, (x, v) -> x.on(7, 1, v), 0, 101, 1, 9997);
    }

    private static void when(Edges e) {
        String sentence = "In how many HOURS (1 to 60) ON one is STIFLED first.";
        e.test(15, sentence, "in 1, in 2");
        e.keeps("AIR 2", () -> Starts.person(3, 0, 2), x -> x.when(0), 1);
        e.keeps("AIR 3", () -> Starts.person(3, 0, 3), x -> x.when(0), 2);
        e.keeps("AIR 0", () -> Starts.person(3, 0, 0), x -> x.when(0), 1);
        e.test(15, sentence, "in 60, in none of 60");
        e.keeps("AIR 176", () -> Starts.person(3, 0, 176), x -> x.when(0), 59);
        e.keeps("AIR 177", () -> Starts.person(3, 0, 177), x -> x.when(0), 60);
        e.keeps("AIR 179", () -> Starts.person(3, 0, 179), x -> x.when(0), 60);
        e.keeps("AIR 180", () -> Starts.person(3, 0, 180), x -> x.when(0), Due.NONE);
        e.test(15, sentence, "that one, not another who is so sooner");
        Supplier<NinthAir> two = Starts.with(() -> Starts.person(3, 7, 0), x -> x.one(0, 0));
        e.keeps("the sooner one", two, x -> x.when(0), 1);
        e.keeps("the later one", two, x -> x.when(1), 34);
        e.test(15, sentence, "as HOUR is 9999");
        e.is("when(1)", Starts.with(() -> Starts.atHour(9999), x -> x.one(0, 0)).get().when(1), 34);
        e.test(15, "BEYOND.", "one of PEOPLE, 2 of them");
        e.rangeKept("when(v)", two, (x, v) -> x.when(v), 0, 1, 1, 34);
        e.test(15, "BEYOND.", "one of PEOPLE, 8 of them");
        e.rangeKept("when(v)", Starts.with(() -> Starts.people(8, 0, 0), x -> x.room(0, 0, 21)),
                (x, v) -> x.when(v), 0, 2, 7, 1);
        e.test(15, "BEYOND.", "one of PEOPLE, nobody there");
        e.keeps("when(0)", Starts::fresh, x -> x.when(0), Due.BEYOND);
        e.test(15, "STATE: it is now.", "STIFLED, and not");
        e.keeps("STIFLED", Starts.with(two, x -> x.set(1, 4, 1)), x -> x.when(1), Due.STATE);
        e.keeps("not", Starts.with(two, x -> x.set(0, 4, 1)), x -> x.when(1), 34);
        e.keeps("no longer", Starts.with(two, x -> {
            x.set(1, 4, 1);
            x.set(1, 4, 0);
        }), x -> x.when(1), 34);
        e.test(15, "NONE.", "STIFLED in the 61st HOUR is NONE, too");
        e.keeps("AIR 182", () -> Starts.person(3, 0, 182), x -> x.when(0), Due.NONE);
        e.keeps("AIR 9999", () -> Starts.person(3, 0, 9999), x -> x.when(0), Due.NONE);
        e.keeps("a FIRE of NEED", Starts.with(() -> Starts.person(3, 0, 0), x -> x.room(0, 2, 3)),
                x -> x.when(0), Due.NONE);
        e.keeps("a FIRE of 1 less", Starts.with(() -> Starts.person(3, 0, 0), x -> x.room(0, 2, 2)),
                x -> x.when(0), 1);
    }

    /** Three PEOPLE of NEED 3 in ROOMS 0 to 2 of these AIRS. */
    private static Supplier<NinthAir> three(int air, int next, int last) {
        return () -> {
            NinthAir x = new NinthAir();
            int[] airs = {air, next, last};
            for (int room = 0; room < 3; room++) {
                x.one(0, room);
                x.room(room, 0, airs[room]);
            }
            return x;
        };
    }

    private static void first(Edges e) {
        String sentence = "The one who is so first; of several the least.";
        e.test(16, sentence, "one HOUR sooner");
        e.keeps("the last", three(30, 30, 29), x -> x.first(), 2);
        e.keeps("the one between", three(30, 29, 30), x -> x.first(), 1);
        e.test(16, sentence, "of several the least");
        e.keeps("all alike", three(30, 30, 30), x -> x.first(), 0);
        e.keeps("both behind", three(33, 30, 30), x -> x.first(), 1);
        e.keeps("in one HOUR, with less AIR", three(32, 31, 30), x -> x.first(), 0);
        e.test(16, sentence, "who is STIFLED now isn't the first");
        e.keeps("the first is now", Starts.with(three(0, 30, 30), x -> x.set(0, 4, 1)), x -> x.first(), 1);
        e.test(16, sentence, "of 8 the last");
        e.keeps("the 8th", Starts.with(() -> Starts.people(8, 0, 0), x -> x.room(0, 0, 23)), x -> x.first(), 7);
        String none = "NONE: nobody is who isn't now.";
        e.test(16, none, "nobody there");
        e.keeps("first()", Starts::fresh, x -> x.first(), Due.NONE);
        e.test(16, none, "all are now");
        e.keeps("one", Starts.with(() -> Starts.person(3, 0, 0), x -> x.set(0, 4, 1)), x -> x.first(), Due.NONE);
        e.keeps("not now", () -> Starts.person(3, 0, 0), x -> x.first(), 0);
        e.test(16, none, "the 60th HOUR, none of 60");
        e.keeps("AIR 179", three(180, 179, 180), x -> x.first(), 1);
        e.keeps("AIR 180", three(180, 180, 180), x -> x.first(), Due.NONE);
    }

    private static void well(Edges e) {
        String sentence = "For how many HOURS (0 to 60, the most) it is WELL.";
        e.test(17, sentence, "0, 1");
        e.keeps("AIR 2", () -> Starts.person(3, 0, 2), x -> x.well(), 0);
        e.keeps("AIR 3", () -> Starts.person(3, 0, 3), x -> x.well(), 1);
        e.test(17, sentence, "59, 60, no more");
        e.keeps("AIR 179", () -> Starts.person(3, 0, 179), x -> x.well(), 59);
        e.keeps("AIR 180", () -> Starts.person(3, 0, 180), x -> x.well(), 60);
        e.keeps("AIR 183", () -> Starts.person(3, 0, 183), x -> x.well(), 60);
        e.keeps("AIR 9999", () -> Starts.person(3, 0, 9999), x -> x.well(), 60);
        e.test(17, sentence, "nobody there, all STIFLED now");
        e.keeps("nobody", Starts::fresh, x -> x.well(), 60);
        e.keeps("all STIFLED", Starts.with(() -> Starts.person(3, 0, 0), x -> x.set(0, 4, 1)), x -> x.well(), 60);
        e.test(17, sentence, "of 8 the last isn't WELL");
        e.keeps("8 of NEED 3, AIR 24", Starts.with(() -> Starts.people(8, 0, 7), x -> x.room(7, 0, 24)),
                x -> x.well(), 1);
        e.keeps("8 of NEED 3, AIR 23", Starts.with(() -> Starts.people(8, 0, 7), x -> x.room(7, 0, 23)),
                x -> x.well(), 0);
        e.test(17, sentence, "as HOUR is 9999");
        e.keeps("well()", () -> Starts.atHour(9999), x -> x.well(), 60);
    }
}
