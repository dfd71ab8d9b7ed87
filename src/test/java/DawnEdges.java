import java.util.function.Supplier;

/** Boundary cases of promises 26 to 29: swept, sweeps, owed, leaked. */
final class DawnEdges {
    private static final Supplier<NinthAir> RICH = Starts::rich;

    private DawnEdges() {
    }

    static void all(Edges e) {
        swept(e);
        sweeps(e);
        owed(e);
        leaked(e);
    }

    private static Supplier<NinthAir> frosts(int... frosts) {
        return () -> {
            NinthAir x = new NinthAir();
            for (int room = 0; room < frosts.length; room++) {
                x.room(room, 1, frosts[room]);
            }
            return x;
        };
    }

    private static final Supplier<NinthAir> ALL = frosts(9999, 9999, 9999, 9999, 9999, 9999, 9999, 9999);
    private static final Supplier<NinthAir> POWERS = frosts(1, 2, 4, 8, 16, 32, 64, 128);

    private static void swept(Edges e) {
        String sentence = "Sets of ROOMS whose FROST together is just v (0 to 99999): how many.";
        e.test(26, sentence, "just v, 1 less, 1 more");
        e.keeps("just 5", frosts(5), x -> x.swept(5), 128);
        e.keeps("4 of 5", frosts(5), x -> x.swept(4), 0);
        e.keeps("6 of 5", frosts(5), x -> x.swept(6), 0);
        e.test(26, sentence, "v 0: the empty set, and those without FROST");
        e.keeps("no FROST", frosts(), x -> x.swept(0), 256);
        e.keeps("FROST in all", POWERS, x -> x.swept(0), 1);
        e.keeps("FROST in the last alone", frosts(0, 0, 0, 0, 0, 0, 0, 1), x -> x.swept(0), 128);
        e.test(26, sentence, "the whole row");
        e.keeps("all ROOMS", POWERS, x -> x.swept(255), 1);
        e.keeps("1 more than all", POWERS, x -> x.swept(256), 0);
        e.keeps("all that can be", ALL, x -> x.swept(79992), 1);
        e.keeps("1 less", ALL, x -> x.swept(79991), 0);
        e.keeps("1 more", ALL, x -> x.swept(79993), 0);
        e.keeps("any 4", ALL, x -> x.swept(4 * 9999), 70);
        e.test(26, "BEYOND.", "v 0 to 99999");
        e.rangeKept("swept(v)", frosts(), (x, v) -> x.swept(v), 0, 256, 99999, 0);
        e.rangeKept("swept(v)", RICH, (x, v) -> x.swept(v), 0, 1, 99999, 0);
    }

    private static void sweeps(Edges e) {
        String sentence = "The least such set.";
        e.test(27, sentence, "the empty one, the first ROOM, the last, all");
        e.keeps("the empty one", POWERS, x -> x.sweeps(0), 0);
        e.keeps("the first", POWERS, x -> x.sweeps(1), 1);
        e.keeps("the last", POWERS, x -> x.sweeps(128), 128);
        e.keeps("all", POWERS, x -> x.sweeps(255), 255);
        e.keeps("all that can be", ALL, x -> x.sweeps(79992), 255);
        e.test(27, sentence, "the least of several, by its bits and not by how many");
        e.keeps("3: ROOMS 0 and 1, or ROOM 2", frosts(1, 2, 3), x -> x.sweeps(3), 3);
        e.keeps("any 4", ALL, x -> x.sweeps(4 * 9999), 15);
        e.keeps("without those that have none", frosts(0, 0, 7), x -> x.sweeps(7), 4);
        e.test(27, "BEYOND.", "v 0 to 99999");
        e.rangeKept("sweeps(v)", RICH, (x, v) -> x.sweeps(v), 0, 0, 99999, Due.NONE);
        e.test(27, "NONE.", "just v, 1 less, 1 more");
        e.keeps("just 5", frosts(5), x -> x.sweeps(5), 1);
        e.keeps("4 of 5", frosts(5), x -> x.sweeps(4), Due.NONE);
        e.keeps("6 of 5", frosts(5), x -> x.sweeps(6), Due.NONE);
        e.keeps("1 more than all that can be", ALL, x -> x.sweeps(79993), Due.NONE);
    }

    private static void owed(Edges e) {
        String sentence = "The ROOM that has most FROST; of several the least.";
        e.test(28, sentence, "none has any");
        e.keeps("owed()", Starts::fresh, x -> x.owed(), 0);
        e.test(28, sentence, "1 more than another, as much");
        e.keeps("the last has 1 more", frosts(9, 0, 0, 0, 0, 0, 0, 10), x -> x.owed(), 7);
        e.keeps("as much", frosts(10, 0, 0, 0, 0, 0, 0, 10), x -> x.owed(), 0);
        e.keeps("the first has 1 more", frosts(10, 9, 9, 9, 9, 9, 9, 9), x -> x.owed(), 0);
        e.keeps("two behind", frosts(9, 10, 9, 10), x -> x.owed(), 1);
        e.test(28, sentence, "all that can be");
        e.keeps("all", ALL, x -> x.owed(), 0);
        e.keeps("the first 1 less", frosts(9998, 9999, 9999), x -> x.owed(), 1);
        e.test(28, sentence, "AIR and FIRE are no FROST");
        e.keeps("owed()", RICH, x -> x.owed(), 7);
        e.keeps("much AIR elsewhere", Starts.with(RICH, x -> x.room(0, 0, 9999)), x -> x.owed(), 7);
    }

    private static void leaked(Edges e) {
        String sentence = "TIGHT (0 to 9) by which, in place of its own, AIR of a ROOM is just v ON n HOURS (0 to 40), "
                + "how many there are.";
        // COLD and AIR 20: in an HOUR 9 less TIGHT falls, and 11 and TIGHT is left.
        Supplier<NinthAir> twenty = Starts.with(Starts::fresh, x -> {
            x.cold(1);
            x.room(7, 0, 20);
        });
        e.test(29, sentence, "TIGHT 0, and below");
        e.keeps("11", twenty, x -> x.leaked(7, 1, 11), 1);
        e.keeps("10", twenty, x -> x.leaked(7, 1, 10), 0);
        e.test(29, sentence, "TIGHT 9, and above");
        e.keeps("20", twenty, x -> x.leaked(7, 1, 20), 1);
        e.keeps("21", twenty, x -> x.leaked(7, 1, 21), 0);
        e.test(29, sentence, "in place of its own");
        for (int i = 0; i < 10; i += 9) {
            int tight = i;
            e.keeps("its own is " + tight, Starts.with(twenty, x -> x.room(7, 3, tight)),
                    x -> x.leaked(7, 1, 15), 1);
        }
        e.test(29, sentence, "0 HOURS: by any");
        e.keeps("AIR as it is", twenty, x -> x.leaked(7, 0, 20), 10);
        e.keeps("1 less", twenty, x -> x.leaked(7, 0, 19), 0);
        e.keeps("1 more", twenty, x -> x.leaked(7, 0, 21), 0);
        e.test(29, sentence, "40 HOURS");
        // 40 of 45 are BREATHED; of what is left nothing may have fallen.
        e.keeps("by TIGHT 9 alone", Starts.with(() -> Starts.person(1, 7, 45), x -> x.cold(1)),
                x -> x.leaked(7, 40, 5), 1);
        e.keeps("by any, not COLD", () -> Starts.person(1, 7, 45), x -> x.leaked(7, 40, 5), 10);
        e.keeps("39 HOURS", () -> Starts.person(1, 7, 45), x -> x.leaked(7, 39, 5), 0);
        e.test(29, "BEYOND: also v (0 to 9999).", "v 0 to 9999");
        e.rangeKept("leaked(7, 1, v)", twenty, (x, v) -> x.leaked(7, 1, v), 0, 0, 9999, 0);
        e.keeps("AIR 9999", Starts.with(twenty, x -> x.room(7, 0, 9999)), x -> x.leaked(7, 0, 9999), 10);
        e.keeps("AIR 0", Starts.with(twenty, x -> x.room(7, 0, 0)), x -> x.leaked(7, 40, 0), 10);
        e.test(29, "BEYOND: also v (0 to 9999).", "n 0 to 40");
        e.rangeKept("leaked(7, v, 20)", twenty, (x, v) -> x.leaked(7, v, 20), 0, 10, 40, 1);
        e.test(29, "BEYOND: also v (0 to 9999).", "ROOM 0 to 7");
        e.rangeKept("leaked(v, 1, 20)", twenty, (x, v) -> x.leaked(v, 1, 20), 0, 0, 7, 1);
    }
}
