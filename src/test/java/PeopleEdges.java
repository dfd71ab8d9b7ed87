import java.util.function.Supplier;

/** Boundary cases of promises 6 to 11: one, of, set, turn, as, goes. */
final class PeopleEdges {
    private static final Supplier<NinthAir> RICH = Starts::rich;
    private static final Supplier<NinthAir> FULL = () -> Starts.richWith(8);

    private PeopleEdges() {
    }

    static void all(Edges e) {
        one(e);
        of(e);
        set(e);
        turn(e);
        as(e);
        goes(e);
    }

    private static void one(Edges e) {
        e.test(6, "A new one of PEOPLE in a ROOM: the number.", "the first, the 8th");
        NinthAir x = e.allowed("the first", Starts::fresh, y -> y.one(5, 7), 0);
        e.is("its KIND", x.of(0, 0), 5);
        e.is("its ROOM", x.of(0, 1), 7);
        x = e.allowed("the 8th", () -> Starts.richWith(7), y -> y.one(4, 6), 7);
        e.is("its KIND", x.of(7, 0), 4);
        e.is("its ROOM", x.of(7, 1), 6);
        e.is("PEOPLE", x.count(0), 8);
        e.test(6, "A new one of PEOPLE in a ROOM: the number.", "in place of one that went nothing of it is left");
        x = Starts.richWith(8);
        x.set(7, 2, 20);
        x.set(7, 3, 999);
        x.set(7, 4, 1);
        x.goes(7);
        e.is("the 8th again", x.one(0, 0), 7);
        e.is("NEED", x.of(7, 2), 3);
        e.is("HOURS", x.of(7, 3), 0);
        e.is("STIFLED", x.of(7, 4), 0);
        e.test(6, "BEYOND: kind, room.", "KIND 0 to 5");
        e.range("one(v, 0)", RICH, (y, v) -> y.one(v, 0), 0, 3, 5, 3);
        e.test(6, "BEYOND: kind, room.", "ROOM 0 to 7");
        e.range("one(0, v)", RICH, (y, v) -> y.one(0, v), 0, 3, 7, 3);
        e.test(6, "FULL.", "the 8th comes, a 9th doesn't");
        e.allowed("the 8th", () -> Starts.richWith(7), y -> y.one(0, 0), 7);
        e.keeps("a 9th", FULL, y -> y.one(0, 0), Due.FULL);
        e.test(6, "FULL.", "asked behind BEYOND");
        e.keeps("a 9th of no KIND", FULL, y -> y.one(6, 0), Due.BEYOND);
        e.keeps("a 9th in no ROOM", FULL, y -> y.one(0, 8), Due.BEYOND);
        e.test(6, "FULL.", "no longer when one went");
        e.allowed("an 8th again", Starts.with(FULL, y -> y.goes(0)), y -> y.one(0, 0), 7);
    }

    private static void of(Edges e) {
        String sentence = "Of one: what 0 KIND, 1 ROOM, 2 NEED, 3 HOURS, 4 1 if STIFLED, else 0, 5 what it BREATHES.";
        e.test(7, sentence, "the first and the last of PEOPLE");
        int[] first = {4, 1, 4, 6, 0, 8};
        int[] last = {5, 6, 9, 8, 1, 0};
        for (int i = 0; i < 6; i++) {
            int what = i;
            e.keeps("of(0, " + what + ")", RICH, x -> x.of(0, what), first[what]);
            e.keeps("of(2, " + what + ")", RICH, x -> x.of(2, what), last[what]);
        }
        e.test(7, "BEYOND.", "one of PEOPLE, 3 of them");
        e.rangeKept("of(v, 2)", RICH, (x, v) -> x.of(v, 2), 0, 4, 2, 9);
        e.rangeKept("of(v, 5)", RICH, (x, v) -> x.of(v, 5), 0, 8, 2, 0);
        e.test(7, "BEYOND.", "one of PEOPLE, 8 of them");
        e.rangeKept("of(v, 1)", FULL, (x, v) -> x.of(v, 1), 0, 1, 7, 7);
        e.test(7, "BEYOND.", "one of PEOPLE, nobody there");
        e.keeps("of(0, 0)", Starts::fresh, x -> x.of(0, 0), Due.BEYOND);
        e.keeps("of(0, 0) of the only one", () -> Starts.people(1, 3, 0), x -> x.of(0, 0), 3);
        e.test(7, "BEYOND.", "what 0 to 5");
        e.rangeKept("of(0, v)", RICH, (x, v) -> x.of(0, v), 0, 4, 5, 8);
    }

    private static void set(Edges e) {
        String sentence = "ROOM (what 1), NEED (2), HOURS (3), STIFLED (4; 1, 0) of one becomes v: what it was.";
        int[] least = {0, 0, 1, 0, 0};
        int[] most = {0, 7, 20, 999, 1};
        int[] was = {0, 1, 5, 7, 0};
        for (int i = 1; i < 5; i++) {
            int what = i;
            e.test(8, sentence, "what " + what + " becomes the least and the most");
            for (int v : new int[] {least[what], most[what]}) {
                NinthAir x = e.allowed("set(1, " + what + ", " + v + ")", RICH, y -> y.set(1, what, v), was[what]);
                e.is("then", x.of(1, what), v);
                e.is("put back", x.set(1, what, was[what]), v);
                e.same("set() and back", x, Starts.rich());
            }
            e.test(8, "BEYOND.", "v " + least[what] + " to " + most[what] + " of what " + what);
            e.range("set(1, " + what + ", v)", RICH, (x, v) -> x.set(1, what, v),
                    least[what], was[what], most[what], was[what]);
        }
        e.test(8, "BEYOND.", "what 1 to 4");
        e.range("set(1, v, 1)", RICH, (x, v) -> x.set(1, v, 1), 1, 1, 4, 0);
        e.test(8, "BEYOND.", "one of PEOPLE, 3 of them");
        e.range("set(v, 1, 5)", RICH, (x, v) -> x.set(v, 1, 5), 0, 1, 2, 6);
        e.test(8, "BEYOND.", "one of PEOPLE, 8 of them");
        e.range("set(v, 1, 5)", FULL, (x, v) -> x.set(v, 1, 5), 0, 1, 7, 7);
        e.test(8, "BEYOND.", "one of PEOPLE, nobody there");
        e.keeps("set(0, 1, 0)", Starts::fresh, x -> x.set(0, 1, 0), Due.BEYOND);
        e.allowed("set(0, 1, 0) of the only one", () -> Starts.people(1, 3, 4), x -> x.set(0, 1, 0), 4);
    }

    private static void turn(Edges e) {
        String sentence = "One becomes of another KIND: what it was.";
        e.test(9, sentence, "the least KIND, the last, and the one that it is of");
        for (int i = 0; i < 6; i++) {
            int kind = i;
            NinthAir x = e.allowed("turn(1, " + kind + ")", RICH, y -> y.turn(1, kind), 3);
            e.is("then", x.of(1, 0), kind);
            e.is("back", x.turn(1, 3), kind);
            e.same("turn() and back", x, Starts.rich());
        }
        e.test(9, "BEYOND.", "KIND 0 to 5");
        e.range("turn(0, v)", RICH, (x, v) -> x.turn(0, v), 0, 4, 5, 4);
        e.test(9, "BEYOND.", "one of PEOPLE, 3 of them");
        e.range("turn(v, 1)", RICH, (x, v) -> x.turn(v, 1), 0, 4, 2, 5);
        e.test(9, "BEYOND.", "one of PEOPLE, 8 of them");
        e.range("turn(v, 0)", FULL, (x, v) -> x.turn(v, 0), 0, 4, 7, 1);
        e.test(9, "BEYOND.", "one of PEOPLE, nobody there");
        e.keeps("turn(0, 0)", Starts::fresh, x -> x.turn(0, 0), Due.BEYOND);
        e.allowed("turn(0, 0) of the only one", () -> Starts.people(1, 3, 4), x -> x.turn(0, 0), 3);
    }

    private static void as(Edges e) {
        e.test(10, "One as of a kind: NEED.", "the least and the most NEED");
        e.keeps("NEED 1", () -> Starts.person(1, 0, 0), x -> x.as(0, 0), 1);
        e.keeps("NEED 20", () -> Starts.person(20, 0, 0), x -> x.as(0, 0), 20);
        e.test(10, "One as of a kind: NEED.", "who is STIFLED, too");
        e.keeps("a DREAMER as a SLEEPER", RICH, x -> x.as(2, 2), 9);
        e.test(10, "BEYOND: no such one, kind.", "one of PEOPLE, 3 of them");
        e.rangeKept("as(v, 0)", RICH, (x, v) -> x.as(v, 0), 0, 4, 2, 9);
        e.test(10, "BEYOND: no such one, kind.", "one of PEOPLE, 8 of them");
        e.rangeKept("as(v, 0)", FULL, (x, v) -> x.as(v, 0), 0, 4, 7, 3);
        e.test(10, "BEYOND: no such one, kind.", "one of PEOPLE, nobody there");
        e.keeps("as(0, 0)", Starts::fresh, x -> x.as(0, 0), Due.BEYOND);
        e.test(10, "BEYOND: no such one, kind.", "KIND 0 to 5");
        e.rangeKept("as(2, v)", RICH, (x, v) -> x.as(2, v), 0, 9, 5, 9);
        String sentence = "KIND: it isn't of that kind, nor of one under it.";
        String[] above = {"0", "01", "02", "03", "014", "025"};
        for (int k = 0; k < 6; k++) {
            int kind = k;
            e.test(10, sentence, "KIND " + kind + " is of KINDS " + above[kind] + " alone");
            for (int w = 0; w < 6; w++) {
                int wanted = w;
                e.keeps("as " + wanted, Starts.with(RICH, x -> x.turn(1, kind)), x -> x.as(1, wanted),
                        above[kind].indexOf('0' + wanted) >= 0 ? 5 : Due.KIND);
            }
        }
        e.test(10, sentence, "by what it is now, not by what it was");
        e.keeps("turned SLEEPER, as CHOIR", Starts.with(RICH, x -> x.turn(0, 2)), x -> x.as(0, 4), Due.KIND);
        e.keeps("turned SLEEPER, as SLEEPER", Starts.with(RICH, x -> x.turn(0, 2)), x -> x.as(0, 2), 4);
    }

    /** KIND, ROOM, NEED, HOURS and STIFLED of each of a rich one's PEOPLE. */
    private static final int[][] RICH_PEOPLE = {{4, 1, 4, 6, 0}, {3, 1, 5, 7, 0}, {5, 6, 9, 8, 1}};

    private static void left(Edges e, NinthAir x, int... left) {
        e.is("PEOPLE", x.count(0), left.length);
        for (int i = 0; i < left.length; i++) {
            for (int what = 0; what < 5; what++) {
                e.is("of(" + i + ", " + what + ")", x.of(i, what), RICH_PEOPLE[left[i]][what]);
            }
        }
        e.is("no more", x.of(left.length, 2), Due.BEYOND);
    }

    private static void goes(Edges e) {
        String sentence = "One goes away; those behind close up: its HOURS.";
        e.test(11, sentence, "the first: those behind close up with all that they have");
        left(e, e.allowed("goes(0)", RICH, x -> x.goes(0), 6), 1, 2);
        e.test(11, sentence, "one between");
        left(e, e.allowed("goes(1)", RICH, x -> x.goes(1), 7), 0, 2);
        e.test(11, sentence, "the last: nobody is behind it");
        left(e, e.allowed("goes(2)", RICH, x -> x.goes(2), 8), 0, 1);
        e.test(11, sentence, "the only one");
        left(e, e.allowed("goes(0)", () -> Starts.people(1, 0, 0), x -> x.goes(0), 0));
        e.test(11, sentence, "of 8 the first and the last");
        e.is("PEOPLE", e.allowed("goes(0)", FULL, y -> y.goes(0), 6).count(0), 7);
        e.is("PEOPLE", e.allowed("goes(7)", FULL, y -> y.goes(7), 0).count(0), 7);
        e.test(11, sentence, "HOURS 0 and 999");
        e.allowed("goes(0), HOURS 999", Starts.with(RICH, y -> y.set(0, 3, 999)), y -> y.goes(0), 999);
        e.allowed("goes(0), HOURS 0", Starts.with(RICH, y -> y.set(0, 3, 0)), y -> y.goes(0), 0);
        e.test(11, "BEYOND.", "one of PEOPLE, 3 of them");
        e.range("goes(v)", RICH, (y, v) -> y.goes(v), 0, 6, 2, 8);
        e.test(11, "BEYOND.", "one of PEOPLE, 8 of them");
        e.range("goes(v)", FULL, (y, v) -> y.goes(v), 0, 6, 7, 0);
        e.test(11, "BEYOND.", "one of PEOPLE, nobody there, and nobody any longer");
        e.keeps("goes(0)", Starts::fresh, y -> y.goes(0), Due.BEYOND);
        e.keeps("goes(2) again", Starts.with(RICH, y -> y.goes(2)), y -> y.goes(2), Due.BEYOND);
    }
}
