import java.util.function.Supplier;

/** Boundary cases of promises 18 to 25: doors, shut, fire, fires, sleep, kind, costs, share. */
final class PlanEdges {
    private static final String N = "---- doors, fires, sleep (n 0 to 40 HOURS).";
    private static final Supplier<NinthAir> RICH = Starts::rich;
    /** A PERSON of NEED 1 in ROOM 0, whose AIR is enough for 39 HOURS and not for 40. */
    private static final Supplier<NinthAir> FOR_39 = () -> Starts.person(1, 0, 39);

    private PlanEdges() {
    }

    static void all(Edges e) {
        doors(e);
        shut(e);
        fire(e);
        fires(e);
        sleep(e);
        kind(e);
        costs(e);
        share(e);
    }

    private static void doors(Edges e) {
        String sentence = "DOORS (a set of those that are open, 0 to 127), in place of what they are, by which it is "
                + "WELL longest (60 HOURS at most); of several the least.";
        e.test(18, sentence, "0: none; 127: all");
        e.keeps("none", () -> Starts.person(3, 0, 400), x -> x.doors(), 0);
        // AIR comes to ROOM 7 from ROOM 0 by all DOORS alone; by some it only goes away.
        e.keeps("all", Starts.with(() -> Starts.person(1, 7, 5), x -> {
            for (int room = 0; room < 7; room++) {
                x.room(room, 0, room == 0 ? 9999 : 0);
            }
        }), x -> x.doors(), 127);
        e.test(18, sentence, "the first alone, the last alone");
        e.keeps("the first", Starts.with(() -> Starts.person(20, 0, 0), x -> x.room(1, 0, 9999)), x -> x.doors(), 1);
        e.keeps("the last", Starts.with(() -> Starts.person(20, 7, 0), x -> x.room(6, 0, 9999)), x -> x.doors(), 64);
        e.test(18, sentence, "60 HOURS at most");
        e.keeps("60 as all are shut", Starts.with(() -> Starts.person(3, 0, 180), x -> x.room(1, 0, 9999)),
                x -> x.doors(), 0);
        e.keeps("59 as all are shut", Starts.with(() -> Starts.person(3, 0, 179), x -> x.room(1, 0, 9999)),
                x -> x.doors(), 1);
        e.test(18, sentence, "of several the least");
        e.keeps("either side does", Starts.with(() -> Starts.person(3, 3, 0), x -> {
            x.room(2, 0, 9999);
            x.room(4, 0, 9999);
        }), x -> x.doors(), 4);
        e.keeps("nobody", Starts::fresh, x -> x.doors(), 0);
        e.keeps("0 HOURS in any case", Starts.with(() -> Starts.person(20, 3, 0), x -> {
            x.room(2, 0, 0);
            x.room(4, 0, 0);
        }), x -> x.doors(), 0);
        e.test(18, sentence, "in place of what they are");
        e.keeps("all open now", Starts.with(() -> Starts.person(3, 0, 400), x -> {
            for (int door = 0; door < 7; door++) {
                x.door(door, 1);
            }
        }), x -> x.doors(), 0);
    }

    private static Supplier<NinthAir> beside(int room, int beside, int air) {
        return Starts.with(() -> Starts.person(20, room, 0), x -> x.room(beside, 0, air));
    }

    private static void shut(Edges e) {
        String sentence = "The DOOR that, turned about (open or shut), lets fewest be STIFLED ON n HOURS, "
                + "fewer than as it is; of several the least.";
        e.test(19, sentence, "the last DOOR opened, by just enough AIR and 1 less");
        e.keeps("a fourth is 20", beside(7, 6, 80), x -> x.shut(1), 6);
        e.keeps("a fourth is 19", beside(7, 6, 79), x -> x.shut(1), Due.NONE);
        e.test(19, sentence, "the first DOOR opened, by just enough AIR and 1 less");
        e.keeps("a fourth is 20", beside(0, 1, 80), x -> x.shut(1), 0);
        e.keeps("a fourth is 19", beside(0, 1, 79), x -> x.shut(1), Due.NONE);
        e.test(19, sentence, "an open DOOR shut, as AIR that stays isn't enough, and as it is");
        e.keeps("19 stay of 25", Starts.with(beside(0, 1, 0), x -> open(x, 0, 0, 25)), x -> x.shut(1), 0);
        e.keeps("20 stay of 26", Starts.with(beside(0, 1, 0), x -> open(x, 0, 0, 26)), x -> x.shut(1), Due.NONE);
        e.test(19, sentence, "of several the least");
        e.keeps("both", Starts.with(beside(3, 2, 100), x -> x.room(4, 0, 100)), x -> x.shut(1), 2);
        e.keeps("the one behind alone", Starts.with(beside(3, 2, 79), x -> x.room(4, 0, 80)), x -> x.shut(1), 3);
        e.test(19, sentence, "fewest, though a lower DOOR lets be fewer");
        Supplier<NinthAir> more = Starts.with(beside(1, 0, 200), x -> {
            x.room(2, 0, 0);
            x.room(6, 0, 400);
            x.room(7, 0, 0);
            x.one(0, 7);
            x.one(0, 7);
        });
        e.keeps("one by DOOR 0, two by DOOR 6", more, x -> x.shut(1), 6);
        e.keeps("one by each", Starts.with(more, x -> x.goes(2)), x -> x.shut(1), 0);
        e.test(19, sentence, "who is STIFLED now stays so");
        e.keeps("STIFLED now", Starts.with(beside(7, 6, 80), x -> x.set(0, 4, 1)), x -> x.shut(1), Due.NONE);
        e.test(19, N, "promise 19: n 0 to 40");
        e.rangeKept("shut(v)", FOR_39, (x, v) -> x.shut(v), 0, Due.NONE, 40, 0);
        e.test(19, "BEYOND.", "n 0 to 40");
        e.rangeKept("shut(v)", beside(7, 6, 80), (x, v) -> x.shut(v), 0, Due.NONE, 40, Due.NONE);
        e.test(19, "NONE.", "nobody is STIFLED ON 39, one is ON 40");
        e.keeps("shut(39)", FOR_39, x -> x.shut(39), Due.NONE);
        e.keeps("shut(40)", FOR_39, x -> x.shut(40), 0);
        e.test(19, "NONE.", "nobody there");
        e.keeps("shut(40)", Starts::fresh, x -> x.shut(40), Due.NONE);
    }

    private static void open(NinthAir x, int door, int room, int air) {
        x.door(door, 1);
        x.room(room, 0, air);
    }

    /** Two DANCERS of NEED 20 and a PERSON in ROOM 7: 80 and the PERSON'S NEED are BREATHED an HOUR. */
    private static Supplier<NinthAir> eightyAnd(int need) {
        return Starts.with(() -> Starts.people(2, 1, 7), x -> {
            x.one(0, 7);
            x.set(0, 2, 20);
            x.set(1, 2, 20);
            x.set(2, 2, need);
            x.room(7, 0, 0);
            x.room(7, 1, 9999);
        });
    }

    private static void fire(Edges e) {
        String sentence = "The least FIRE (0 to 99) of a ROOM, in place of its own, by which it is WELL for n HOURS.";
        e.test(20, sentence, "0, 1");
        e.keeps("AIR is enough", () -> Starts.person(20, 0, 20), x -> x.fire(0, 1), 0);
        e.keeps("1 is wanting", () -> Starts.person(20, 0, 19), x -> x.fire(0, 1), 1);
        e.test(20, sentence, "99, and 100 would do");
        e.keeps("99", eightyAnd(19), x -> x.fire(7, 40), 99);
        e.keeps("100", eightyAnd(20), x -> x.fire(7, 40), Due.NONE);
        e.test(20, sentence, "in place of its own");
        e.keeps("its own is 99", Starts.with(() -> Starts.person(20, 0, 0), x -> x.room(0, 2, 99)),
                x -> x.fire(0, 1), 20);
        e.keeps("its own is 0", () -> Starts.person(20, 0, 0), x -> x.fire(0, 1), 20);
        e.test(20, sentence, "of a ROOM, the others' stay");
        Supplier<NinthAir> two = Starts.with(() -> Starts.person(20, 0, 0), x -> {
            x.one(0, 1);
            x.room(1, 0, 0);
            x.room(1, 1, 9999);
            x.room(1, 2, 3);
        });
        e.keeps("the other's is enough", two, x -> x.fire(0, 1), 20);
        e.keeps("the other's is 1 less", Starts.with(two, x -> x.room(1, 2, 2)), x -> x.fire(0, 1), Due.NONE);
        e.test(20, sentence, "no more FROST than there is");
        e.keeps("FROST 20", Starts.with(() -> Starts.person(20, 0, 0), x -> x.room(0, 1, 20)), x -> x.fire(0, 1), 20);
        e.keeps("FROST 19", Starts.with(() -> Starts.person(20, 0, 0), x -> x.room(0, 1, 19)), x -> x.fire(0, 1),
                Due.NONE);
        e.test(20, N, "promise 20: n 0 to 40");
        e.rangeKept("fire(0, v)", FOR_39, (x, v) -> x.fire(0, v), 0, 0, 40, 1);
        e.keeps("fire(0, 39)", FOR_39, x -> x.fire(0, 39), 0);
        e.test(20, "BEYOND.", "ROOM 0 to 7");
        e.rangeKept("fire(v, 1)", () -> Starts.person(20, 7, 0), (x, v) -> x.fire(v, 1), 0, Due.NONE, 7, 20);
        e.test(20, "BEYOND.", "n 0 to 40");
        e.rangeKept("fire(7, v)", eightyAnd(19), (x, v) -> x.fire(7, v), 0, 0, 40, 99);
        e.test(20, "NONE.", "another ROOM'S FIRE does nothing, an open DOOR lets it do");
        e.keeps("shut", () -> Starts.person(1, 0, 0), x -> x.fire(1, 1), Due.NONE);
        e.keeps("open", Starts.with(() -> Starts.person(1, 0, 0), x -> x.door(0, 1)), x -> x.fire(1, 1), 0);
    }

    /** PEOPLE of these NEEDS in ROOMS a and b, without AIR, with all FROST. */
    private static Supplier<NinthAir> two(int a, int need, int b, int needThere) {
        return Starts.with(() -> Starts.person(need, a, 0), x -> {
            x.one(0, b);
            x.set(1, 2, needThere);
            x.room(b, 0, 0);
            x.room(b, 1, 9999);
        });
    }

    private static void fires(Edges e) {
        String sentence = "The least of all FIRES of ROOMS a and b together (each 0 to 20, in place of their own) "
                + "by which it is WELL for n HOURS.";
        e.test(21, sentence, "0, 1, 40");
        e.keeps("0", () -> Starts.person(20, 0, 20), x -> x.fires(0, 1, 1), 0);
        e.keeps("1", () -> Starts.person(20, 0, 19), x -> x.fires(0, 1, 1), 1);
        e.keeps("39", two(0, 20, 7, 19), x -> x.fires(0, 7, 40), 39);
        e.keeps("40", two(0, 20, 7, 20), x -> x.fires(0, 7, 40), 40);
        e.test(21, sentence, "each 0 to 20, the first");
        Supplier<NinthAir> one = () -> Starts.person(20, 3, 0);
        e.keeps("20 and 0", one, x -> x.fires(3, 4, 1), 20);
        e.keeps("21 and 0", Starts.with(one, x -> add(x, 3)), x -> x.fires(3, 4, 1), Due.NONE);
        e.test(21, sentence, "each 0 to 20, the second");
        e.keeps("0 and 20", one, x -> x.fires(4, 3, 1), 20);
        e.keeps("0 and 21", Starts.with(one, x -> add(x, 3)), x -> x.fires(4, 3, 1), Due.NONE);
        e.test(21, sentence, "in place of their own");
        e.keeps("their own are 99", Starts.with(two(0, 20, 7, 20), x -> {
            x.room(0, 2, 99);
            x.room(7, 2, 99);
        }), x -> x.fires(0, 7, 1), 40);
        e.keeps("a third one stays", Starts.with(two(0, 20, 7, 20), x -> x.room(0, 2, 20)), x -> x.fires(6, 7, 1), 20);
        e.keeps("a third one is 1 less", Starts.with(two(0, 20, 7, 20), x -> x.room(0, 2, 19)),
                x -> x.fires(6, 7, 1), Due.NONE);
        e.test(21, N, "promise 21: n 0 to 40");
        e.rangeKept("fires(0, 1, v)", FOR_39, (x, v) -> x.fires(0, 1, v), 0, 0, 40, 1);
        e.keeps("fires(0, 1, 39)", FOR_39, x -> x.fires(0, 1, 39), 0);
        String beyond = "BEYOND: also one and the same.";
        e.test(21, beyond, "one and the same");
        e.keeps("fires(3, 3, 1)", one, x -> x.fires(3, 3, 1), Due.BEYOND);
        e.keeps("fires(3, 2, 1)", one, x -> x.fires(3, 2, 1), 20);
        e.keeps("fires(0, 0, 0)", one, x -> x.fires(0, 0, 0), Due.BEYOND);
        e.keeps("fires(7, 7, 0)", one, x -> x.fires(7, 7, 0), Due.BEYOND);
        e.test(21, beyond, "ROOM a 0 to 7");
        e.rangeKept("fires(v, 3, 1)", one, (x, v) -> x.fires(v, 3, 1), 0, 20, 7, 20);
        e.test(21, beyond, "ROOM b 0 to 7");
        e.rangeKept("fires(3, v, 1)", one, (x, v) -> x.fires(3, v, 1), 0, 20, 7, 20);
        e.test(21, beyond, "n 0 to 40");
        e.rangeKept("fires(3, 4, v)", one, (x, v) -> x.fires(3, 4, v), 0, 0, 40, 20);
        e.test(21, "NONE.", "neither ROOM helps, one does");
        e.keeps("neither", one, x -> x.fires(4, 5, 1), Due.NONE);
        e.keeps("one does", one, x -> x.fires(5, 3, 1), 20);
    }

    private static void add(NinthAir x, int room) {
        x.set(x.one(0, room), 2, 1);
    }

    private static void sleep(Edges e) {
        String sentence = "The ROOM in which one had best be, so that it isn't STIFLED for longest (60 HOURS at most); "
                + "of several the least.";
        Supplier<NinthAir> start = () -> Starts.people(1, 0, 4);
        e.test(22, sentence, "the first ROOM, the last");
        e.keeps("the first", Starts.with(start, x -> x.room(0, 0, 102)), x -> x.sleep(0), 0);
        e.keeps("the last", Starts.with(start, x -> x.room(7, 0, 102)), x -> x.sleep(0), 7);
        e.test(22, sentence, "an HOUR longer, and not");
        e.keeps("33 HOURS each", Starts.with(start, x -> x.room(6, 0, 101)), x -> x.sleep(0), 0);
        e.keeps("34 HOURS", Starts.with(start, x -> x.room(6, 0, 102)), x -> x.sleep(0), 6);
        e.test(22, sentence, "60 HOURS at most");
        e.keeps("60 and more", Starts.with(start, x -> longer(x, 180)), x -> x.sleep(0), 2);
        e.keeps("59 and more", Starts.with(start, x -> longer(x, 179)), x -> x.sleep(0), 5);
        e.test(22, sentence, "of several the least");
        e.keeps("all alike", start, x -> x.sleep(0), 0);
        e.keeps("two", Starts.with(start, x -> {
            x.room(3, 0, 150);
            x.room(6, 0, 150);
        }), x -> x.sleep(0), 3);
        e.keeps("STIFLED at once anywhere", Starts.with(start, x -> {
            for (int room = 0; room < 8; room++) {
                x.room(room, 0, 2);
            }
        }), x -> x.sleep(0), 0);
        e.test(22, "BEYOND.", "one of PEOPLE, 1 of them");
        e.rangeKept("sleep(v)", start, (x, v) -> x.sleep(v), 0, 0, 0, 0);
        e.test(22, "BEYOND.", "one of PEOPLE, 8 of them");
        e.rangeKept("sleep(v)", () -> Starts.people(8, 0, 0), (x, v) -> x.sleep(v), 0, 1, 7, 1);
        e.test(22, "BEYOND.", "one of PEOPLE, nobody there");
        e.keeps("sleep(0)", Starts::fresh, x -> x.sleep(0), Due.BEYOND);
        e.test(22, "STATE: it is STIFLED now.", "STIFLED, and not");
        e.keeps("STIFLED", Starts.with(start, x -> x.set(0, 4, 1)), x -> x.sleep(0), Due.STATE);
        e.keeps("another is STIFLED", Starts.with(start, x -> x.set(x.one(0, 0), 4, 1)), x -> x.sleep(0), 0);
    }

    private static void longer(NinthAir x, int air) {
        x.room(2, 0, air);
        x.room(5, 0, 9999);
    }

    private static void kind(Edges e) {
        String sentence = "The KIND as one of which somebody lets fewest (of all) be STIFLED ON n HOURS; "
                + "of several the least.";
        e.test(23, sentence, "of several the least");
        e.keeps("nobody is STIFLED as any", () -> Starts.people(1, 5, 0), x -> x.kind(0, 1), 0);
        e.keeps("STIFLED as any", Starts.with(() -> Starts.people(1, 5, 0), x -> {
            x.room(0, 0, 0);
            x.set(0, 3, 3);
        }), x -> x.kind(0, 1), 0);
        e.test(23, sentence, "who holds for as many HOURS as NEED, and 1 more");
        Supplier<NinthAir> holds = Starts.with(() -> Starts.people(1, 4, 0), x -> x.room(0, 0, 0));
        e.keeps("3 HOURS", holds, x -> x.kind(0, 3), 3);
        e.keeps("4 HOURS", holds, x -> x.kind(0, 4), 0);
        e.test(23, sentence, "of 8 all are STIFLED, or all but one");
        Supplier<NinthAir> noAir = Starts.with(() -> Starts.people(8, 0, 0), x -> x.room(0, 0, 0));
        e.keeps("all but who holds", noAir, x -> x.kind(7, 1), 3);
        e.keeps("who holds no more, too", Starts.with(noAir, x -> x.set(7, 3, 3)), x -> x.kind(7, 1), 0);
        e.test(23, sentence, "who sleeps by just enough AIR, and 1 less");
        Supplier<NinthAir> sleeps = Starts.with(() -> Starts.people(1, 0, 0), x -> x.set(0, 3, 3));
        e.keeps("AIR 4 for 2 HOURS", Starts.with(sleeps, x -> x.room(0, 0, 4)), x -> x.kind(0, 2), 2);
        e.keeps("AIR 3 for 2 HOURS", Starts.with(sleeps, x -> x.room(0, 0, 3)), x -> x.kind(0, 2), 0);
        e.test(23, sentence, "of all, not of itself alone");
        Supplier<NinthAir> both = Starts.with(() -> Starts.people(2, 0, 0), x -> x.room(0, 0, 5));
        e.keeps("AIR is enough for a SLEEPER and a PERSON", Starts.with(both, x -> x.set(0, 3, 3)),
                x -> x.kind(0, 1), 2);
        e.keeps("1 less isn't", Starts.with(both, x -> {
            x.set(0, 3, 3);
            x.room(0, 0, 4);
        }), x -> x.kind(0, 1), 0);
        e.test(23, sentence, "the others stay of their KINDS");
        e.keeps("a CHOIR beside it stays one", Starts.with(() -> Starts.people(2, 4, 0), x -> x.room(0, 0, 9)),
                x -> x.kind(0, 1), 0);
        e.keeps("1 less", Starts.with(() -> Starts.people(2, 4, 0), x -> x.room(0, 0, 8)), x -> x.kind(0, 1), 2);
        kindsThatBurnOut(e, sentence);
        e.test(23, N, "promise 23: n 0 to 40");
        e.rangeKept("kind(0, v)", FOR_39, (x, v) -> x.kind(0, v), 0, 0, 40, 3);
        e.keeps("kind(0, 39)", FOR_39, x -> x.kind(0, 39), 0);
        e.test(23, "BEYOND.", "one of PEOPLE, 3 of them");
        e.rangeKept("kind(v, 0)", RICH, (x, v) -> x.kind(v, 0), 0, 0, 2, 0);
        e.test(23, "BEYOND.", "one of PEOPLE, 8 of them");
        e.rangeKept("kind(v, 1)", Starts.with(() -> Starts.people(8, 0, 0), x -> x.room(0, 0, 21)),
                (x, v) -> x.kind(v, 1), 0, 3, 7, 3);
        e.test(23, "BEYOND.", "one of PEOPLE, nobody there");
        e.keeps("kind(0, 0)", Starts::fresh, x -> x.kind(0, 0), Due.BEYOND);
        e.test(23, "BEYOND.", "n 0 to 40");
        e.rangeKept("kind(0, v)", holds, (x, v) -> x.kind(0, v), 0, 0, 40, 0);
    }

    /** Two of these KINDS, NEEDS and HOURS in ROOM 0 of this AIR, FROST and FIRE. */
    private static Supplier<NinthAir> pair(int[] one, int[] behind, int air, int frost, int fire) {
        return () -> {
            NinthAir x = new NinthAir();
            for (int[] each : new int[][] {one, behind}) {
                int who = x.one(each[0], 0);
                x.set(who, 2, each[1]);
                x.set(who, 3, each[2]);
            }
            x.room(0, 0, air);
            x.room(0, 1, frost);
            x.room(0, 2, fire);
            return x;
        };
    }

    /** One who BREATHES more is, or lets the other be, STIFLED so early that what is burnt then does for one. */
    private static void kindsThatBurnOut(Edges e, String sentence) {
        e.test(23, sentence, "a DANCER: 1 of FROST is left for who held, or none");
        int[] one = {4, 2, 4};
        int[] holder = {3, 1, 0};
        e.keeps("FROST 3", pair(one, holder, 0, 3, 2), x -> x.kind(0, 2), 1);
        e.keeps("FROST 2", pair(one, holder, 0, 2, 2), x -> x.kind(0, 2), 0);
        e.test(23, sentence, "a CHOIR: 4 of FROST are left for two HOURS alone, or 3");
        int[] small = {0, 1, 4};
        int[] choir = {4, 2, 1};
        e.keeps("FROST 9", pair(small, choir, 1, 9, 5), x -> x.kind(0, 3), 4);
        e.keeps("FROST 8", pair(small, choir, 1, 8, 5), x -> x.kind(0, 3), 0);
        e.test(23, sentence, "the last KIND, a DREAMER: 6 of FROST are left for two HOURS alone, or 5");
        int[] dreams = {4, 2, 2};
        int[] sleeper = {2, 4, 2};
        e.keeps("FROST 11", pair(dreams, sleeper, 0, 11, 5), x -> x.kind(0, 3), 5);
        e.keeps("FROST 10", pair(dreams, sleeper, 0, 10, 5), x -> x.kind(0, 3), 0);
    }

    private static void costs(Edges e) {
        String sentence = "By how much AIR of all ROOMS together is more ON n HOURS without one.";
        Supplier<NinthAir> one = () -> Starts.person(1, 7, 100);
        e.test(24, sentence, "0 HOURS: nothing");
        e.keeps("costs(0, 0)", one, x -> x.costs(0, 0), 0);
        e.keeps("costs(0, 1)", one, x -> x.costs(0, 1), 1);
        e.test(24, sentence, "all the AIR, and no more");
        e.keeps("AIR 40", () -> Starts.person(1, 7, 40), x -> x.costs(0, 40), 40);
        e.keeps("AIR 39", () -> Starts.person(1, 7, 39), x -> x.costs(0, 40), 39);
        e.keeps("AIR 0", () -> Starts.person(1, 7, 0), x -> x.costs(0, 40), 0);
        e.test(24, sentence, "who is STIFLED costs nothing");
        e.keeps("STIFLED", Starts.with(one, x -> x.set(0, 4, 1)), x -> x.costs(0, 40), 0);
        e.test(24, sentence, "below 0, where without one another lives on");
        // By a FIRE of 20: with the PERSON of NEED 1 the one of NEED 20 behind it is STIFLED in the first HOUR.
        Supplier<NinthAir> two = Starts.with(() -> Starts.person(1, 0, 0), x -> {
            x.room(0, 2, 20);
            x.set(x.one(0, 0), 2, 20);
        });
        e.keeps("costs(0, 1)", two, x -> x.costs(0, 1), 0);
        e.keeps("costs(0, 2)", two, x -> x.costs(0, 2), -19);
        e.test(24, sentence, "without a CHOIR the others BREATHE less");
        e.keeps("two CHOIRS", () -> Starts.people(2, 4, 0), x -> x.costs(1, 1), 8);
        e.keeps("three CHOIRS", () -> Starts.people(3, 4, 0), x -> x.costs(1, 1), 10);
        e.test(24, N, "promise 24: n 0 to 40");
        e.rangeKept("costs(0, v)", one, (x, v) -> x.costs(0, v), 0, 0, 40, 40);
        e.test(24, "BEYOND.", "n 0 to 40");
        e.rangeKept("costs(2, v)", RICH, (x, v) -> x.costs(2, v), 0, 0, 40, 0);
        e.test(24, "BEYOND.", "one of PEOPLE, 2 of them");
        e.rangeKept("costs(v, 1)", () -> Starts.people(2, 1, 5), (x, v) -> x.costs(v, 1), 0, 6, 1, 6);
        e.test(24, "BEYOND.", "one of PEOPLE, 8 of them");
        e.rangeKept("costs(v, 1)", () -> Starts.people(8, 0, 5), (x, v) -> x.costs(v, 1), 0, 3, 7, 3);
        e.test(24, "BEYOND.", "one of PEOPLE, nobody there");
        e.keeps("costs(0, 0)", Starts::fresh, x -> x.costs(0, 0), Due.BEYOND);
    }

    private static void share(Edges e) {
        String sentence = "A SHARE: the first k (1 to 6) of PEOPLE come to a ball one behind the other; a fire must be "
                + "as great as what the one of them BREATHES who BREATHES most (as they do now): by how much it must "
                + "be greater as one (below k) comes than ahead of that, in all orders, together; times 720, by how "
                + "many orders there are (no rest is left).";
        Supplier<NinthAir> eight = () -> Starts.people(8, 0, 0);
        e.test(25, sentence, "k 1: one order");
        e.keeps("share(0, 1)", eight, x -> x.share(0, 1), 3 * 720);
        e.test(25, sentence, "k 6: 720 orders");
        e.keeps("share(0, 6), all alike", eight, x -> x.share(0, 6), 3 * 120);
        e.keeps("share(5, 6), all alike", eight, x -> x.share(5, 6), 3 * 120);
        e.test(25, sentence, "the least and the most that one can be due");
        Supplier<NinthAir> great = Starts.with(eight, x -> {
            for (int one = 0; one < 5; one++) {
                x.set(one, 4, 1);
            }
            x.turn(5, 1);
            x.set(5, 2, 20);
        });
        e.keeps("all of 40", great, x -> x.share(5, 6), 40 * 720);
        e.keeps("none of 40", great, x -> x.share(0, 6), 0);
        e.test(25, sentence, "the first k alone: those behind don't come");
        e.keeps("share(4, 5)", Starts.with(great, x -> x.set(4, 4, 0)), x -> x.share(4, 5), 3 * 720);
        e.keeps("share(4, 6)", Starts.with(great, x -> x.set(4, 4, 0)), x -> x.share(4, 6), 3 * 360);
        e.test(25, sentence, "as they do now: a CHOIR with those behind k, too");
        e.keeps("8 CHOIRS", () -> Starts.people(8, 4, 0), x -> x.share(0, 1), 13 * 720);
        e.test(25, sentence, "no rest is left: by 6 orders, by 120");
        Supplier<NinthAir> steps = Starts.with(eight, x -> {
            for (int one = 0; one < 6; one++) {
                x.set(one, 2, one + 1);
            }
        });
        // The fire grows by 1 a step; each step is paid by those who need it, in equal shares.
        long[] of3 = {240, 240 + 360, 240 + 360 + 720};
        long[] of6 = {120, 264, 444, 684, 1044, 1764};
        for (int i = 0; i < 6; i++) {
            int one = i;
            if (one < 3) {
                e.keeps("share(" + one + ", 3)", steps, x -> x.share(one, 3), of3[one]);
            }
            e.keeps("share(" + one + ", 6)", steps, x -> x.share(one, 6), of6[one]);
        }
        String beyond = "BEYOND: also if there are fewer.";
        e.test(25, beyond, "k 1 to 6");
        e.rangeKept("share(0, v)", eight, (x, v) -> x.share(0, v), 1, 2160, 6, 360);
        e.test(25, beyond, "one below k");
        for (int i = 1; i <= 6; i++) {
            int k = i;
            e.rangeKept("share(v, " + k + ")", eight, (x, v) -> x.share(v, k), 0, 2160 / k, k - 1, 2160 / k);
        }
        e.test(25, beyond, "if there are fewer");
        for (int i = 1; i <= 6; i++) {
            int k = i;
            e.keeps("share(0, " + k + ") of " + k, () -> Starts.people(k, 0, 0), x -> x.share(0, k), 2160 / k);
            e.keeps("share(0, " + k + ") of " + (k - 1), () -> Starts.people(k - 1, 0, 0), x -> x.share(0, k),
                    Due.BEYOND);
        }
    }
}
