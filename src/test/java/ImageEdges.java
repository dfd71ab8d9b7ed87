import java.util.function.Supplier;

/** Boundary cases of promises 39 to 43: image, undo, tear, count, status. */
final class ImageEdges {
    private static final Supplier<NinthAir> RICH = Starts::rich;

    private ImageEdges() {
    }

    static void all(Edges e) {
        image(e);
        undo(e);
        tear(e);
        count(e);
        status(e);
    }

    /** Changes all that section 1 tells. */
    private static void changeAll(NinthAir x) {
        for (int room = 0; room < 8; room++) {
            x.room(room, 0, 1);
            x.room(room, 1, 2);
            x.room(room, 2, 3);
            x.room(room, 3, 4);
        }
        for (int door = 0; door < 7; door++) {
            x.door(door, 1 - x.door(door, 0));
        }
        x.cold(1 - x.cold(0));
        x.hours(1);
        x.one(1, 2);
        x.goes(0);
        x.set(0, 1, 5);
        x.set(0, 2, 17);
        x.set(0, 3, 500);
        x.set(0, 4, 1);
        x.turn(0, 2);
    }

    private static void image(Edges e) {
        String sentence = "All that section 1 tells (THE TAPE not) is kept: 1.";
        e.test(39, sentence, "1, the first time and again");
        e.allowed("the first", Starts::fresh, x -> x.image(), 1);
        e.allowed("again", RICH, x -> x.image(), 1);
        e.test(39, sentence, "nothing changes but what is kept");
        NinthAir x = Starts.rich();
        x.image();
        NinthAir twin = Starts.rich();
        x.tear();
        twin.tear();
        e.same("image() and tear()", x, twin);
        e.test(39, sentence, "all that section 1 tells");
        x = Starts.rich();
        x.image();
        changeAll(x);
        e.is("undo()", x.undo(), 3);
        twin = Starts.rich();
        twin.image();
        e.same("image(), changes, undo()", x, twin);
        e.test(39, sentence, "nobody, and all 8");
        e.is("nobody", Starts.with(Starts::fresh, y -> {
            y.image();
            y.one(0, 0);
        }).get().undo(), 0);
        e.is("all 8", Starts.with(() -> Starts.richWith(8), y -> {
            y.image();
            y.goes(7);
        }).get().undo(), 8);
        e.test(39, sentence, "THE TAPE not");
        x = Starts.fed("mild");
        x.image();
        x.wipe();
        Due.feed(x, "x");
        x.undo();
        e.is("bytes", x.count(1), 1);
        e.is("text()", x.text(), -1);
        e.test(39, sentence, "the last HOUR");
        x = Starts.atHour(9999);
        x.image();
        x.undo();
        e.is("hours(1)", x.hours(1), Due.STATE);
        e.test(39, sentence, "sheets aren't of section 1");
        x = Starts.rich();
        x.image();
        x.write(0, 0, 9);
        x.sheet(1, 0, 0);
        x.sheet(3, 8, 1);
        x.undo();
        e.is("a number", x.write(0, 0, 0), 9);
        e.is("one is MISSING", x.lays(1), Due.MISSING);
        e.is("one is there", x.write(3, 0, 0), 0);
    }

    private static void undo(Edges e) {
        String sentence = "It becomes what was kept latest (which stays): how many of PEOPLE.";
        e.test(40, sentence, "the latest of two");
        NinthAir x = Starts.people(1, 0, 0);
        x.image();
        x.one(0, 1);
        x.image();
        x.one(0, 2);
        e.is("undo()", x.undo(), 2);
        e.is("ROOM of the second", x.of(1, 1), 1);
        e.test(40, sentence, "which stays: again, with changes between and without");
        e.is("without", x.undo(), 2);
        x.goes(0);
        x.goes(0);
        e.is("with", x.undo(), 2);
        e.is("ROOM of the second", x.of(1, 1), 1);
        x.set(1, 2, 20);
        x.undo();
        e.is("NEED of the second", x.of(1, 2), 3);
        e.test(40, sentence, "nobody, 8");
        e.allowed("nobody", Starts.with(Starts::fresh, y -> y.image()), y -> y.undo(), 0);
        e.allowed("8", Starts.with(() -> Starts.people(8, 5, 0), y -> y.image()), y -> y.undo(), 8);
        e.test(40, "NONE: nothing is kept.", "never, no longer, again");
        e.keeps("never", Starts::fresh, y -> y.undo(), Due.NONE);
        e.keeps("no longer", Starts.with(RICH, y -> y.tear()), y -> y.undo(), Due.NONE);
        e.allowed("again", Starts.with(RICH, y -> {
            y.tear();
            y.image();
        }), y -> y.undo(), 3);
        e.allowed("an earlier night", RICH, y -> y.undo(), 1);
    }

    private static void tear(Edges e) {
        String sentence = "Nothing is kept: 1 if something was, else 0.";
        e.test(41, sentence, "nothing, something, nothing again");
        e.keeps("nothing", Starts::fresh, x -> x.tear(), 0);
        NinthAir x = e.allowed("something", RICH, y -> y.tear(), 1);
        e.is("nothing again", x.tear(), 0);
        e.is("undo()", x.undo(), Due.NONE);
        e.test(41, sentence, "of several images none is left");
        x = Starts.rich();
        x.image();
        x.image();
        e.is("tear()", x.tear(), 1);
        e.is("again", x.tear(), 0);
        e.is("undo()", x.undo(), Due.NONE);
        e.test(41, sentence, "undo() lets it stay");
        e.allowed("after undo()", Starts.with(RICH, y -> y.undo()), y -> y.tear(), 1);
        e.test(41, sentence, "nothing else changes");
        x = Starts.rich();
        x.tear();
        NinthAir twin = Starts.rich();
        twin.image();
        twin.tear();
        e.same("tear()", x, twin);
        e.is("AIR of 0", Starts.with(RICH, y -> y.tear()).get().roomOf(0, 0), 200);
    }

    private static void count(Edges e) {
        String sentence = "0 PEOPLE, 1 bytes of THE TAPE, 2 NEEDS of all together, 3 TIGHT of all ROOMS together.";
        int[] rich = {3, 20, 18, 36};
        e.test(42, sentence, "each as it is");
        for (int i = 0; i < 4; i++) {
            int what = i;
            e.keeps("count(" + what + ")", RICH, x -> x.count(what), rich[what]);
        }
        e.test(42, sentence, "the least of each");
        Supplier<NinthAir> least = Starts.with(Starts::fresh, x -> tight(x, 0));
        for (int i = 0; i < 4; i++) {
            int what = i;
            e.keeps("count(" + what + ")", least, x -> x.count(what), 0);
        }
        e.test(42, sentence, "the most of each");
        Supplier<NinthAir> most = Starts.with(() -> Starts.people(8, 0, 0), x -> {
            tight(x, 9);
            for (int one = 0; one < 8; one++) {
                x.set(one, 2, 20);
            }
            Due.feed(x, " ".repeat(120));
        });
        int[] due = {8, 120, 160, 72};
        for (int i = 0; i < 4; i++) {
            int what = i;
            e.keeps("count(" + what + ")", most, x -> x.count(what), due[what]);
        }
        e.test(42, sentence, "NEEDS of those who went are none of it, of those STIFLED are");
        e.keeps("one went", Starts.with(RICH, x -> x.goes(1)), x -> x.count(2), 13);
        e.keeps("all STIFLED", Starts.with(RICH, x -> {
            x.set(0, 4, 1);
            x.set(1, 4, 1);
        }), x -> x.count(2), 18);
        e.test(42, "BEYOND: another what.", "what 0 to 3");
        e.rangeKept("count(v)", RICH, (x, v) -> x.count(v), 0, 3, 3, 36);
    }

    private static void tight(NinthAir x, int tight) {
        for (int room = 0; room < 8; room++) {
            x.room(room, 3, tight);
        }
    }

    /** One finding of each, the later ones as often as their place tells: 28 in all. */
    private static NinthAir each() {
        NinthAir x = Starts.people(8, 0, 0);
        x.set(7, 4, 1);
        x.cold(2);
        for (int i = 0; i < 7; i++) {
            if (i < 2) {
                x.one(0, 0);
            }
            if (i < 3) {
                x.as(0, 4);
            }
            if (i < 4) {
                x.undo();
            }
            if (i < 5) {
                x.when(7);
            }
            if (i < 6) {
                x.write(3, 0, 0);
            }
            x.sheet(0, 8, -1);
        }
        return x;
    }

    private static void status(Edges e) {
        String sentence = "How many acts answered a finding ever (undo() takes none back): which -1: all, "
                + "0 to 6: BEYOND to SIZE.";
        e.test(43, sentence, "none yet");
        for (int i = -1; i < 7; i++) {
            int which = i;
            e.keeps("status(" + which + ")", Starts::fresh, x -> x.status(which), 0);
        }
        e.test(43, sentence, "-1: all, 0 to 6: BEYOND to SIZE");
        for (int i = -1; i < 7; i++) {
            int which = i;
            e.keeps("status(" + which + ")", ImageEdges::each, x -> x.status(which), which == -1 ? 28 : which + 1);
        }
        e.test(43, sentence, "undo() takes none back");
        NinthAir x = new NinthAir();
        x.image();
        x.cold(2);
        x.undo();
        e.is("status(-1)", x.status(-1), 1);
        e.test(43, sentence, "undo() itself that finds NONE is counted");
        x = new NinthAir();
        x.undo();
        e.is("status(3)", x.status(3), 1);
        e.test(43, sentence, "findings in longs are counted, too");
        x = new NinthAir();
        x.share(0, 1);
        x.write(0, 0, 0);
        e.is("BEYOND", x.status(0), 1);
        e.is("MISSING", x.status(5), 1);
        e.is("all", x.status(-1), 2);
        e.test(43, sentence, "answers below 0 that are none: a FAULT, costs()");
        x = new NinthAir();
        x.text();
        e.is("a FAULT", x.status(-1), 0);
        e.test(43, sentence, "ever: 500 of one");
        x = new NinthAir();
        for (int i = 0; i < 500; i++) {
            x.undo();
        }
        e.is("NONE", x.status(3), 500);
        e.is("all", x.status(-1), 500);
        String beyond = "BEYOND (counted from then on): another one.";
        e.test(43, beyond, "which -1 to 6");
        e.rangeKept("status(v)", ImageEdges::each, (y, v) -> y.status(v), -1, 28, 6, 7);
        e.test(43, beyond, "counted from then on");
        x = new NinthAir();
        e.is("status(7)", x.status(7), Due.BEYOND);
        e.is("status(0)", x.status(0), 1);
        e.is("status(-2)", x.status(-2), Due.BEYOND);
        e.is("status(0)", x.status(0), 2);
        e.is("status(-1)", x.status(-1), 2);
    }
}
