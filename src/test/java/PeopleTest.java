/** Promises 6 to 11: one, of, set, turn, as, goes. */
final class PeopleTest {
    private static final Due DUE = new Due();

    public static void main(String[] args) {
        one();
        breathing();
        set();
        turn();
        as();
        goes();
        DUE.end("PeopleTest");
    }

    private static void one() {
        NinthAir x = new NinthAir();
        DUE.is("one(-1, 0)", x.one(-1, 0), Due.BEYOND);
        DUE.is("one(6, 0)", x.one(6, 0), Due.BEYOND);
        DUE.is("one(0, -1)", x.one(0, -1), Due.BEYOND);
        DUE.is("one(0, 8)", x.one(0, 8), Due.BEYOND);
        for (int i = 0; i < 8; i++) {
            DUE.is("one " + i, x.one(i % 6, 7 - i), i);
            DUE.is("KIND " + i, x.of(i, 0), i % 6);
            DUE.is("ROOM " + i, x.of(i, 1), 7 - i);
            DUE.is("NEED " + i, x.of(i, 2), 3);
            DUE.is("HOURS " + i, x.of(i, 3), 0);
            DUE.is("STIFLED " + i, x.of(i, 4), 0);
        }
        DUE.is("a 9th", x.one(0, 0), Due.FULL);
        DUE.is("a 9th, wrong: BEYOND is asked first", x.one(6, 0), Due.BEYOND);
        DUE.is("PEOPLE", x.count(0), 8);
        x.set(7, 2, 20);
        x.set(7, 3, 9);
        x.set(7, 4, 1);
        DUE.is("the last goes", x.goes(7), 9);
        DUE.is("an 8th again", x.one(5, 5), 7);
        DUE.is("NEED of a new one", x.of(7, 2), 3);
        DUE.is("HOURS of a new one", x.of(7, 3), 0);
        DUE.is("STIFLED of a new one", x.of(7, 4), 0);
    }

    private static void breathing() {
        int[][] byNeed = {
            // NEED, PERSON, DANCER, SLEEPER, HOLDER that holds no more, CHOIR alone, DREAMER
            {1, 1, 2, 1, 1, 2, 2},
            {3, 3, 6, 2, 3, 6, 3},
            {7, 7, 14, 4, 7, 14, 5},
            {20, 20, 40, 11, 20, 40, 12},
        };
        for (int[] row : byNeed) {
            for (int kind = 0; kind < 6; kind++) {
                NinthAir x = new NinthAir();
                x.one(kind, 4);
                x.set(0, 2, row[0]);
                x.set(0, 3, row[0]);
                DUE.is("KIND " + kind + " of NEED " + row[0], x.of(0, 5), row[1 + kind]);
                x.set(0, 4, 1);
                DUE.is("STIFLED KIND " + kind, x.of(0, 5), 0);
            }
        }
        NinthAir x = new NinthAir();
        x.one(3, 0);
        DUE.is("HOLDER at first", x.of(0, 5), 0);
        x.set(0, 3, 2);
        DUE.is("HOLDER an HOUR ahead", x.of(0, 5), 0);
        x.set(0, 3, 3);
        DUE.is("HOLDER as of NEED", x.of(0, 5), 3);
        x.set(0, 3, 999);
        DUE.is("HOLDER for long", x.of(0, 5), 3);

        x = new NinthAir();
        for (int i = 0; i < 4; i++) {
            x.one(4, 1);
        }
        x.one(4, 2);
        x.one(1, 1);
        DUE.is("CHOIR of 4", x.of(0, 5), 9);
        DUE.is("CHOIR of 4, the last", x.of(3, 5), 9);
        DUE.is("CHOIR elsewhere", x.of(4, 5), 6);
        x.set(1, 4, 1);
        DUE.is("CHOIR with one STIFLED", x.of(0, 5), 8);
        x.set(4, 1, 1);
        DUE.is("CHOIR with one more", x.of(0, 5), 9);
        x.turn(2, 1);
        DUE.is("CHOIR with one turned DANCER", x.of(0, 5), 8);
        DUE.is("of(-1, 0)", x.of(-1, 0), Due.BEYOND);
        DUE.is("of(6, 0)", x.of(6, 0), Due.BEYOND);
        DUE.is("of(0, -1)", x.of(0, -1), Due.BEYOND);
        DUE.is("of(0, 6)", x.of(0, 6), Due.BEYOND);
    }

    private static void set() {
        int[] least = {0, 0, 1, 0, 0};
        int[] most = {0, 7, 20, 999, 1};
        int[] first = {0, 2, 3, 0, 0};
        NinthAir x = new NinthAir();
        DUE.is("set: nobody", x.set(0, 1, 0), Due.BEYOND);
        x.one(0, 5);
        x.one(0, 2);
        for (int what = 1; what < 5; what++) {
            DUE.is("set most " + what, x.set(1, what, most[what]), first[what]);
            DUE.is("set above " + what, x.set(1, what, most[what] + 1), Due.BEYOND);
            DUE.is("set below " + what, x.set(1, what, least[what] - 1), Due.BEYOND);
            DUE.is("set stays " + what, x.of(1, what), most[what]);
            DUE.is("set least " + what, x.set(1, what, least[what]), most[what]);
            DUE.is("set is least " + what, x.of(1, what), least[what]);
        }
        DUE.is("KIND is none of it", x.set(1, 0, 0), Due.BEYOND);
        DUE.is("set(1, 5, 0)", x.set(1, 5, 0), Due.BEYOND);
        DUE.is("set(1, -1, 0)", x.set(1, -1, 0), Due.BEYOND);
        DUE.is("set(2, 1, 0)", x.set(2, 1, 0), Due.BEYOND);
        DUE.is("set(-1, 1, 0)", x.set(-1, 1, 0), Due.BEYOND);
        DUE.is("the other one's ROOM", x.of(0, 1), 5);
        DUE.is("the other one's NEED", x.of(0, 2), 3);
    }

    private static void turn() {
        NinthAir x = new NinthAir();
        DUE.is("turn: nobody", x.turn(0, 0), Due.BEYOND);
        x.one(2, 0);
        x.set(0, 2, 9);
        x.set(0, 3, 8);
        DUE.is("turn(0, 5)", x.turn(0, 5), 2);
        DUE.is("turn(0, 5) again", x.turn(0, 5), 5);
        DUE.is("turn(0, 6)", x.turn(0, 6), Due.BEYOND);
        DUE.is("turn(0, -1)", x.turn(0, -1), Due.BEYOND);
        DUE.is("turn(1, 0)", x.turn(1, 0), Due.BEYOND);
        DUE.is("turn(-1, 0)", x.turn(-1, 0), Due.BEYOND);
        DUE.is("KIND", x.of(0, 0), 5);
        DUE.is("NEED stays", x.of(0, 2), 9);
        DUE.is("HOURS stay", x.of(0, 3), 8);
    }

    private static void as() {
        boolean[][] is = {
            {true, false, false, false, false, false},
            {true, true, false, false, false, false},
            {true, false, true, false, false, false},
            {true, false, false, true, false, false},
            {true, true, false, false, true, false},
            {true, false, true, false, false, true},
        };
        NinthAir x = new NinthAir();
        DUE.is("as: nobody", x.as(0, 0), Due.BEYOND);
        for (int kind = 0; kind < 6; kind++) {
            x.one(kind, 0);
            x.set(kind, 2, 10 + kind);
            for (int wanted = 0; wanted < 6; wanted++) {
                DUE.is("KIND " + kind + " as " + wanted, x.as(kind, wanted),
                        is[kind][wanted] ? 10 + kind : Due.KIND);
            }
        }
        DUE.is("as(0, 6)", x.as(0, 6), Due.BEYOND);
        DUE.is("as(0, -1)", x.as(0, -1), Due.BEYOND);
        DUE.is("as(6, 0)", x.as(6, 0), Due.BEYOND);
        DUE.is("as(-1, 0)", x.as(-1, 0), Due.BEYOND);
        DUE.is("KIND findings", x.status(2), 36 - 13);
    }

    private static void goes() {
        NinthAir x = new NinthAir();
        DUE.is("goes: nobody", x.goes(0), Due.BEYOND);
        for (int i = 0; i < 8; i++) {
            x.one(i % 6, i);
            x.set(i, 2, i + 1);
            x.set(i, 3, 100 + i);
            x.set(i, 4, i % 2);
        }
        DUE.is("goes(8)", x.goes(8), Due.BEYOND);
        DUE.is("goes(-1)", x.goes(-1), Due.BEYOND);
        DUE.is("goes(2)", x.goes(2), 102);
        DUE.is("goes(6), the last", x.goes(6), 107);
        DUE.is("goes(0)", x.goes(0), 100);
        DUE.is("goes(5): no longer", x.goes(5), Due.BEYOND);
        int[] left = {1, 3, 4, 5, 6};
        DUE.is("PEOPLE left", x.count(0), left.length);
        for (int i = 0; i < left.length; i++) {
            DUE.is("KIND of " + i, x.of(i, 0), left[i] % 6);
            DUE.is("ROOM of " + i, x.of(i, 1), left[i]);
            DUE.is("NEED of " + i, x.of(i, 2), left[i] + 1);
            DUE.is("HOURS of " + i, x.of(i, 3), 100 + left[i]);
            DUE.is("STIFLED of " + i, x.of(i, 4), left[i] % 2);
        }
    }
}
