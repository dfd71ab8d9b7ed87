import java.util.function.Supplier;

/** Boundary cases of promises 33 to 38: sheet, write, copy, lays, book, read. */
final class SheetEdges {
    private static final Supplier<NinthAir> RICH = Starts::rich;
    private static final String NO_SHEET = "BEYOND: no such sheet.";

    private SheetEdges() {
    }

    static void all(Edges e) {
        sheet(e);
        write(e);
        bits(e);
        copy(e);
        refusedCopies(e);
        lays(e);
        book(e);
        read(e);
    }

    private static Supplier<NinthAir> with(int bits, long... numbers) {
        return () -> {
            NinthAir x = Starts.rich();
            Starts.numbers(x, 3, bits, numbers);
            return x;
        };
    }

    private static Supplier<NinthAir> ofLength(int bits, int n) {
        return Starts.with(RICH, x -> x.sheet(3, bits, n));
    }

    /** All numbers of a sheet, which become 0 by it, and no more. */
    private static void numbers(Edges e, NinthAir x, int s, long... due) {
        for (int i = 0; i < due.length; i++) {
            e.is("number " + i + " of sheet " + s, x.write(s, i, 0), due[i]);
        }
        e.is("no more numbers in sheet " + s, x.write(s, due.length, 0), Due.BEYOND);
    }

    private static void sheet(Edges e) {
        String has = "A sheet has n numbers, all 0, of 8, 16 or 64 bits; bits 0: it is MISSING: "
                + "n (0 if it is MISSING).";
        for (int bits : new int[] {8, 16, 64}) {
            e.test(33, has, "0, 1 and 40 numbers of " + bits + " bits");
            numbers(e, e.allowed("n 0", RICH, x -> x.sheet(1, bits, 0), 0), 1);
            numbers(e, e.allowed("n 1", RICH, x -> x.sheet(1, bits, 1), 1), 1, 0);
            numbers(e, e.allowed("n 40", RICH, x -> x.sheet(1, bits, 40), 40), 1, new long[40]);
        }
        e.test(33, has, "bits 0: MISSING, n 0 to 40");
        for (int n : new int[] {0, 1, 40}) {
            NinthAir x = e.allowed("n " + n, RICH, y -> y.sheet(1, 0, n), 0);
            e.is("write()", x.write(1, 0, 1), Due.MISSING);
        }
        e.test(33, has, "0 numbers aren't MISSING");
        e.is("lays()", e.allowed("n 0", RICH, x -> x.sheet(1, 8, 0), 0).lays(1), 0);
        e.test(33, has, "all 0, also where more numbers were, or fewer, or MISSING was");
        NinthAir x = with(8, 5, 6, 7).get();
        x.sheet(3, 8, 1);
        x.sheet(3, 8, 4);
        numbers(e, x, 3, 0, 0, 0, 0);
        x = with(8, 5, 6, 7).get();
        x.sheet(3, 0, 0);
        x.sheet(3, 16, 3);
        numbers(e, x, 3, 0, 0, 0);
        x = with(64, 5, 6).get();
        x.sheet(3, 64, 2);
        numbers(e, x, 3, 0, 0);
        e.test(33, has, "the other sheets stay");
        numbers(e, e.allowed("sheet(1, 8, 40)", RICH, y -> y.sheet(1, 8, 40), 40), 0, 1, 2, 3);
        String beyond = "BEYOND: no such sheet, other bits.";
        e.test(33, beyond, "sheet 0 to 3");
        e.range("sheet(v, 16, 7)", RICH, (y, v) -> y.sheet(v, 16, 7), 0, 7, 3, 7);
        e.range("sheet(v, 0, 7)", RICH, (y, v) -> y.sheet(v, 0, 7), 0, 0, 3, 0);
        e.test(33, beyond, "other bits than 0, 8, 16 and 64");
        for (int bits : new int[] {-1, 1, 7, 9, 15, 17, 24, 32, 63, 65, 128, -8, -64, Integer.MIN_VALUE,
            Integer.MAX_VALUE}) {
            e.keeps("bits " + bits, RICH, y -> y.sheet(1, bits, 2), Due.BEYOND);
        }
        sizes(e);
    }

    private static void sizes(Edges e) {
        for (int bits : new int[] {8, 16, 64, 0}) {
            String also = bits == 0 ? " (also with bits 0)" : ", bits " + bits;
            e.test(33, "SIZE: n is below 0 (also with bits 0).", "n 0, n -1" + also);
            e.allowed("n 0", RICH, x -> x.sheet(1, bits, 0), 0);
            e.keeps("n -1", RICH, x -> x.sheet(1, bits, -1), Due.SIZE);
            e.keeps("the least n", RICH, x -> x.sheet(1, bits, Integer.MIN_VALUE), Due.SIZE);
            e.test(33, "BEYOND: n is above 40 (also with bits 0).", "n 40, n 41" + also);
            e.allowed("n 40", RICH, x -> x.sheet(1, bits, 40), bits == 0 ? 0 : 40);
            e.keeps("n 41", RICH, x -> x.sheet(1, bits, 41), Due.BEYOND);
            e.keeps("the most n", RICH, x -> x.sheet(1, bits, Integer.MAX_VALUE), Due.BEYOND);
        }
        e.test(33, "SIZE: n is below 0 (also with bits 0).", "asked behind BEYOND of sheet and bits");
        e.keeps("no such sheet", RICH, x -> x.sheet(4, 8, -1), Due.BEYOND);
        e.keeps("other bits", RICH, x -> x.sheet(1, 9, -1), Due.BEYOND);
    }

    private static void write(Edges e) {
        String sentence = "Number i of a sheet becomes v (its lowest bits): what it was.";
        e.test(34, sentence, "the first number, the last");
        numbers(e, e.allowed("the first", RICH, x -> x.write(1, 0, 9), 300), 1, 9, 301, 302, 303, 304);
        numbers(e, e.allowed("the last", RICH, x -> x.write(1, 4, 9), 304), 1, 300, 301, 302, 303, 9);
        e.test(34, sentence, "the 40th number");
        numbers(e, e.allowed("number 39", ofLength(64, 40), x -> x.write(3, 39, 0), 0), 3, new long[40]);
        e.test(34, NO_SHEET, "sheet 0 to 3");
        e.range("write(v, 0, 9)", with(8, 77), (x, v) -> x.write(v, 0, 9), 0, 1, 3, 77);
        e.test(34, "MISSING.", "MISSING, and there");
        e.keeps("MISSING", RICH, x -> x.write(3, 0, 9), Due.MISSING);
        e.allowed("there", ofLength(8, 1), x -> x.write(3, 0, 9), 0);
        e.test(34, "MISSING.", "asked ahead of which number");
        e.keeps("number -1", RICH, x -> x.write(3, -1, 9), Due.MISSING);
        e.keeps("number 40", RICH, x -> x.write(3, 40, 9), Due.MISSING);
        String beyond = "BEYOND: no such number.";
        e.test(34, beyond, "5 numbers");
        e.range("write(1, v, 9)", RICH, (x, v) -> x.write(1, v, 9), 0, 300, 4, 304);
        e.test(34, beyond, "40 numbers");
        e.range("write(3, v, 9)", ofLength(8, 40), (x, v) -> x.write(3, v, 9), 0, 0, 39, 0);
        e.test(34, beyond, "1 number, no numbers");
        e.range("write(3, v, 9)", ofLength(8, 1), (x, v) -> x.write(3, v, 9), 0, 0, 0, 0);
        e.keeps("no numbers", ofLength(8, 0), x -> x.write(3, 0, 9), Due.BEYOND);
        e.test(34, beyond, "numbers that were there ahead of fewer");
        e.keeps("number 2 of 2", Starts.with(ofLength(8, 3), x -> x.sheet(3, 8, 2)), x -> x.write(3, 2, 9),
                Due.BEYOND);
        e.test(34, sentence, "a number that looks like a finding isn't one");
        NinthAir x = with(64, Due.BEYOND, Due.SIZE).get();
        int before = x.status(-1);
        e.is("it was BEYOND'S", x.write(3, 0, 1), Due.BEYOND);
        e.is("it was SIZE'S", x.write(3, 1, 2), Due.SIZE);
        e.is("status(-1)", x.status(-1), before);
        numbers(e, x, 3, 1, 2);
    }

    private static void kept(Edges e, int bits, long v, long due) {
        NinthAir x = e.allowed(v + " in " + bits + " bits", ofLength(bits, 1), y -> y.write(3, 0, v), 0);
        e.is(v + " in " + bits + " bits, then", x.write(3, 0, 0), due);
    }

    private static void bits(Edges e) {
        String sentence = "Number i of a sheet becomes v (its lowest bits): what it was.";
        e.test(34, sentence, "8 bits: -128 to 127, around beyond that");
        long[][] eight = {{127, 127}, {128, -128}, {-128, -128}, {-129, 127}, {255, -1}, {256, 0}, {-256, 0},
            {Long.MAX_VALUE, -1}, {Long.MIN_VALUE, 0}, {0x17f, 127}};
        for (long[] pair : eight) {
            kept(e, 8, pair[0], pair[1]);
        }
        e.test(34, sentence, "16 bits: -32768 to 32767, around beyond that");
        long[][] sixteen = {{32767, 32767}, {32768, -32768}, {-32768, -32768}, {-32769, 32767}, {65535, -1},
            {65536, 0}, {Long.MAX_VALUE, -1}, {Long.MIN_VALUE, 0}, {128, 128}};
        for (long[] pair : sixteen) {
            kept(e, 16, pair[0], pair[1]);
        }
        e.test(34, sentence, "64 bits: all");
        for (long v : new long[] {Long.MAX_VALUE, Long.MIN_VALUE, -1, 0, 1L << 32, 1L << 31, -(1L << 31) - 1}) {
            kept(e, 64, v, v);
        }
    }

    private static void copy(Edges e) {
        String sentence = "n numbers of a sheet from one on come to another one from one on (as they all were): n.";
        Supplier<NinthAir> two = with(16, 1, 2, 3);
        e.test(35, sentence, "0 numbers, 1 number, all");
        numbers(e, e.allowed("0", two, x -> x.copy(1, 0, 3, 0, 0), 0), 3, 1, 2, 3);
        numbers(e, e.allowed("1", two, x -> x.copy(1, 0, 3, 0, 1), 1), 3, 300, 2, 3);
        numbers(e, e.allowed("all that the target has", two, x -> x.copy(1, 0, 3, 0, 3), 3), 3, 300, 301, 302);
        numbers(e, e.allowed("all that the source has", two, x -> x.copy(3, 0, 1, 2, 3), 3), 1, 300, 301, 1, 2, 3);
        e.test(35, sentence, "from the last, to the last");
        numbers(e, e.allowed("from the last", two, x -> x.copy(1, 4, 3, 0, 1), 1), 3, 304, 2, 3);
        numbers(e, e.allowed("to the last", two, x -> x.copy(1, 0, 3, 2, 1), 1), 3, 1, 2, 300);
        e.test(35, sentence, "40 numbers");
        NinthAir x = e.allowed("40 to itself", ofLength(64, 40), y -> y.copy(3, 0, 3, 0, 40), 40);
        numbers(e, x, 3, new long[40]);
        e.test(35, sentence, "as they all were: a sheet to itself, onwards, back, in its place");
        numbers(e, e.allowed("onwards", RICH, y -> y.copy(1, 0, 1, 1, 4), 4), 1, 300, 300, 301, 302, 303);
        numbers(e, e.allowed("back", RICH, y -> y.copy(1, 1, 1, 0, 4), 4), 1, 301, 302, 303, 304, 304);
        e.keeps("in its place", RICH, y -> y.copy(1, 0, 1, 0, 5), 5);
        e.test(35, sentence, "the source stays as it was, with all its bits");
        x = e.allowed("64 bits", with(64, 0, 0), y -> y.copy(2, 2, 3, 0, 2), 2);
        numbers(e, x, 3, 4000000002L, 4000000003L);
        numbers(e, x, 2, 4000000000L, 4000000001L, 4000000002L, 4000000003L);
        x = e.allowed("8 bits", with(8, 0, -128), y -> y.copy(3, 1, 0, 2, 1), 1);
        numbers(e, x, 0, 1, 2, -128);
        e.test(35, sentence, "what is copied is no longer joined to what it came from");
        x = two.get();
        x.copy(1, 0, 3, 0, 3);
        x.write(1, 0, 7);
        numbers(e, x, 3, 300, 301, 302);
    }

    private static void refusedCopies(Edges e) {
        Supplier<NinthAir> two = with(16, 1, 2, 3);
        String noSheet = "BEYOND: no such sheet (either).";
        e.test(35, noSheet, "the source 0 to 3");
        e.range("copy(v, 0, 3, 0, 1)", with(8, 5, 6), (x, v) -> x.copy(v, 0, 3, 0, 1), 0, 1, 3, 1);
        e.test(35, noSheet, "the target 0 to 3");
        e.range("copy(0, 0, v, 0, 1)", with(8, 5, 6), (x, v) -> x.copy(0, 0, v, 0, 1), 0, 1, 3, 1);
        e.test(35, noSheet, "asked ahead of MISSING");
        e.keeps("the source is MISSING", RICH, x -> x.copy(3, 0, 4, 0, 1), Due.BEYOND);
        e.keeps("the target is MISSING", RICH, x -> x.copy(-1, 0, 3, 0, 1), Due.BEYOND);
        String missing = "MISSING: one is.";
        e.test(35, missing, "the source, the target, both, neither");
        e.keeps("the source", RICH, x -> x.copy(3, 0, 1, 0, 1), Due.MISSING);
        e.keeps("the target", RICH, x -> x.copy(1, 0, 3, 0, 1), Due.MISSING);
        e.keeps("both", RICH, x -> x.copy(3, 0, 3, 0, 0), Due.MISSING);
        e.allowed("neither", two, x -> x.copy(1, 0, 3, 0, 1), 1);
        e.test(35, missing, "asked ahead of how many");
        e.keeps("n -1", RICH, x -> x.copy(3, -1, 1, -1, -1), Due.MISSING);
        String kind = "KIND: they are not of as many bits.";
        e.test(35, kind, "8, 16 and 64 bits, each with each");
        int[] bits = {8, 16, 64};
        for (int s = 0; s < 3; s++) {
            for (int i = 0; i < 3; i++) {
                int source = s;
                int target = i;
                long due = source == target ? 1 : Due.KIND;
                e.keeps(bits[source] + " to " + bits[target], RICH, x -> x.copy(source, 0, target, 0, 1), due);
            }
        }
        e.test(35, kind, "also of 0 numbers, and asked ahead of how many");
        e.keeps("0 numbers", RICH, x -> x.copy(0, 0, 1, 0, 0), Due.KIND);
        e.keeps("n -1", RICH, x -> x.copy(0, -1, 1, -1, -1), Due.KIND);
        farCopies(e, two);
    }

    private static void farCopies(Edges e, Supplier<NinthAir> two) {
        String beyond = "BEYOND: one has not so many, or from, to or n is below 0.";
        e.test(35, beyond, "the source has not so many: 5 numbers");
        e.allowed("2 from 3", two, x -> x.copy(1, 3, 3, 0, 2), 2);
        e.keeps("3 from 3", two, x -> x.copy(1, 3, 3, 0, 3), Due.BEYOND);
        e.allowed("0 from 5", two, x -> x.copy(1, 5, 3, 0, 0), 0);
        e.keeps("0 from 6", two, x -> x.copy(1, 6, 3, 0, 0), Due.BEYOND);
        e.keeps("1 from 5", two, x -> x.copy(1, 5, 3, 0, 1), Due.BEYOND);
        e.test(35, beyond, "the target has not so many: 3 numbers");
        e.allowed("2 to 1", two, x -> x.copy(1, 0, 3, 1, 2), 2);
        e.keeps("3 to 1", two, x -> x.copy(1, 0, 3, 1, 3), Due.BEYOND);
        e.allowed("0 to 3", two, x -> x.copy(1, 0, 3, 3, 0), 0);
        e.keeps("0 to 4", two, x -> x.copy(1, 0, 3, 4, 0), Due.BEYOND);
        e.keeps("4 to 0", two, x -> x.copy(1, 0, 3, 0, 4), Due.BEYOND);
        e.test(35, beyond, "from is below 0");
        e.range("copy(1, v, 3, 0, 1)", two, (x, v) -> x.copy(1, v, 3, 0, 1), 0, 1, 4, 1);
        e.test(35, beyond, "to is below 0");
        e.range("copy(1, 0, 3, v, 1)", two, (x, v) -> x.copy(1, 0, 3, v, 1), 0, 1, 2, 1);
        e.test(35, beyond, "n is below 0");
        e.range("copy(1, 0, 3, 0, v)", two, (x, v) -> x.copy(1, 0, 3, 0, v), 0, 0, 3, 3);
        e.keeps("n -1 from 1 to 1", two, x -> x.copy(1, 1, 3, 1, -1), Due.BEYOND);
        e.test(35, beyond, "sums that wrap around");
        int most = Integer.MAX_VALUE;
        e.keeps("from", two, x -> x.copy(1, most, 3, 0, 1), Due.BEYOND);
        e.keeps("to", two, x -> x.copy(1, 0, 3, most, 1), Due.BEYOND);
        e.keeps("n", two, x -> x.copy(1, 1, 3, 1, most), Due.BEYOND);
        e.keeps("all", two, x -> x.copy(1, most, 3, most, most), Due.BEYOND);
        e.keeps("from and n", two, x -> x.copy(1, most, 3, 0, 3), Due.BEYOND);
        e.keeps("no numbers to none", Starts.with(ofLength(16, 0), x -> x.sheet(1, 16, 0)),
                x -> x.copy(1, 0, 3, 0, 0), 0);
        e.keeps("1 number to none", ofLength(16, 0), x -> x.copy(1, 0, 3, 0, 1), Due.BEYOND);
    }

    private static void airs(Edges e, NinthAir x, int... due) {
        for (int room = 0; room < 8; room++) {
            e.is("AIR of " + room, x.roomOf(room, 0), room < due.length ? due[room] : 200 + room);
        }
    }

    private static void lays(Edges e) {
        String sentence = "Numbers of a sheet become AIR of ROOMS 0, 1, .. (those that aren't 0 to 9999, or stand for "
                + "none, are left out): how many came.";
        e.test(36, sentence, "no numbers, 1 number");
        e.keeps("none", ofLength(16, 0), x -> x.lays(3), 0);
        airs(e, e.allowed("one", with(16, 7), x -> x.lays(3), 1), 7);
        e.test(36, sentence, "those that aren't 0 to 9999");
        airs(e, e.allowed("16 bits", with(16, 0, 9999, -1, 10000, 5), x -> x.lays(3), 3), 0, 9999, 202, 203, 5);
        airs(e, e.allowed("64 bits", with(64, 1L << 32, (1L << 32) + 5, Long.MIN_VALUE, Long.MAX_VALUE, -1, 10000,
                9999, 0), x -> x.lays(3), 2), 200, 201, 202, 203, 204, 205, 9999, 0);
        airs(e, e.allowed("8 bits", with(8, 127, 128, 255, 256), x -> x.lays(3), 2), 127, 201, 202, 0);
        e.test(36, sentence, "those that stand for none: a 9th, a 40th");
        airs(e, e.allowed("8 numbers", with(16, 0, 1, 2, 3, 4, 5, 6, 7), x -> x.lays(3), 8), 0, 1, 2, 3, 4, 5, 6, 7);
        airs(e, e.allowed("9 numbers", with(16, 0, 1, 2, 3, 4, 5, 6, 7, 8), x -> x.lays(3), 8), 0, 1, 2, 3, 4, 5, 6,
                7);
        airs(e, e.allowed("40 numbers", ofLength(8, 40), x -> x.lays(3), 8), 0, 0, 0, 0, 0, 0, 0, 0);
        e.test(36, sentence, "the sheet stays, and all but AIR");
        NinthAir x = with(16, 200, 201).get();
        e.is("lays(3)", x.lays(3), 2);
        e.same("AIR as it was", x, with(16, 200, 201).get());
        e.test(36, NO_SHEET, "sheet 0 to 3");
        e.range("lays(v)", with(8, 1, 2), (y, v) -> y.lays(v), 0, 3, 3, 2);
        e.test(36, "MISSING.", "MISSING, and there");
        e.keeps("MISSING", RICH, y -> y.lays(3), Due.MISSING);
        e.allowed("there", ofLength(8, 1), y -> y.lays(3), 1);
    }

    /** A PERSON of NEED 1 in ROOM 7 of an AIR, and a sheet of n numbers. */
    private static Supplier<NinthAir> booked(int air, int bits, int n) {
        return Starts.with(() -> Starts.person(1, 7, air), x -> x.sheet(3, bits, n));
    }

    private static long[] down(int from, int n) {
        long[] row = new long[n];
        for (int i = 0; i < n; i++) {
            row[i] = from - i;
        }
        return row;
    }

    private static void book(Edges e) {
        String sentence = "A book: AIR of a ROOM ON 0, 1, 2, .. HOURS comes to a sheet, as many as it has numbers: "
                + "how many.";
        e.test(37, sentence, "no numbers, 1, 40");
        e.keeps("none", booked(100, 16, 0), x -> x.book(3, 7), 0);
        numbers(e, e.allowed("1", booked(100, 16, 1), x -> x.book(3, 7), 1), 3, 100);
        numbers(e, e.allowed("40", booked(100, 16, 40), x -> x.book(3, 7), 40), 3, down(100, 40));
        e.test(37, sentence, "8 bits: AIR of 127, of 128, of 9999");
        numbers(e, e.allowed("127", booked(127, 8, 2), x -> x.book(3, 7), 2), 3, 127, 126);
        numbers(e, e.allowed("128", booked(128, 8, 2), x -> x.book(3, 7), 2), 3, -128, 127);
        numbers(e, e.allowed("256", booked(256, 8, 2), x -> x.book(3, 7), 2), 3, 0, -1);
        numbers(e, e.allowed("9999", booked(9999, 8, 1), x -> x.book(3, 7), 1), 3, 15);
        e.test(37, sentence, "16 and 64 bits: all AIR that can be");
        numbers(e, e.allowed("16", booked(9999, 16, 2), x -> x.book(3, 7), 2), 3, 9999, 9998);
        numbers(e, e.allowed("64", booked(9999, 64, 2), x -> x.book(3, 7), 2), 3, 9999, 9998);
        e.test(37, sentence, "nothing changes but the sheet");
        NinthAir x = booked(100, 16, 40).get();
        x.book(3, 7);
        x.sheet(3, 16, 40);
        e.same("book()", x, booked(100, 16, 40).get());
        e.test(37, NO_SHEET, "sheet 0 to 3");
        e.range("book(v, 7)", with(8, 1, 2), (y, v) -> y.book(v, 7), 0, 3, 3, 2);
        e.test(37, NO_SHEET, "asked ahead of the ROOM");
        e.keeps("book(4, 8)", RICH, y -> y.book(4, 8), Due.BEYOND);
        e.test(37, "MISSING.", "MISSING, and there; asked ahead of the ROOM");
        e.keeps("MISSING", RICH, y -> y.book(3, 7), Due.MISSING);
        e.keeps("MISSING, no ROOM", RICH, y -> y.book(3, 8), Due.MISSING);
        e.allowed("there", ofLength(8, 1), y -> y.book(3, 7), 1);
        e.test(37, "BEYOND: room.", "ROOM 0 to 7");
        e.range("book(1, v)", RICH, (y, v) -> y.book(1, v), 0, 5, 7, 5);
        e.test(37, "BEYOND: room.", "also where no numbers would come");
        e.range("book(3, v)", ofLength(8, 0), (y, v) -> y.book(3, v), 0, 0, 7, 0);
    }

    /** COLD, AIR 20 and much FROST in ROOM 7: in an HOUR AIR becomes 11 and TIGHT and FIRE. */
    private static Supplier<NinthAir> weighed(long... told) {
        return () -> {
            NinthAir x = new NinthAir();
            x.cold(1);
            x.room(7, 0, 20);
            x.room(7, 1, 5000);
            Starts.numbers(x, 3, 16, told);
            return x;
        };
    }

    private static void read(Edges e) {
        String sentence = "THE READER, who weighed: numbers of a sheet are AIR of a ROOM ON 0, 1, 2, .. HOURS: "
                + "how many pairs of TIGHT (0 to 9) and FIRE (0 to 99) of that ROOM, in place of its own, make it just so.";
        e.test(38, sentence, "no numbers: all pairs");
        e.keeps("none", weighed(), x -> x.read(3, 7), 1000);
        e.test(38, sentence, "1 number: AIR as it is, 1 less, 1 more");
        e.keeps("20", weighed(20), x -> x.read(3, 7), 1000);
        e.keeps("19", weighed(19), x -> x.read(3, 7), 0);
        e.keeps("21", weighed(21), x -> x.read(3, 7), 0);
        e.test(38, sentence, "TIGHT 0 and FIRE 0, and below");
        e.keeps("11", weighed(20, 11), x -> x.read(3, 7), 1);
        e.keeps("10", weighed(20, 10), x -> x.read(3, 7), 0);
        e.test(38, sentence, "TIGHT 9 and FIRE 99, and above");
        e.keeps("119", weighed(20, 119), x -> x.read(3, 7), 1);
        e.keeps("120", weighed(20, 120), x -> x.read(3, 7), 0);
        e.test(38, sentence, "TIGHT by FIRE: all pairs that make it so");
        e.keeps("12", weighed(20, 12), x -> x.read(3, 7), 2);
        e.keeps("20", weighed(20, 20), x -> x.read(3, 7), 10);
        e.keeps("110", weighed(20, 110), x -> x.read(3, 7), 10);
        e.keeps("111", weighed(20, 111), x -> x.read(3, 7), 9);
        e.test(38, sentence, "in place of its own");
        e.keeps("its own are the most", Starts.with(weighed(20, 11), x -> {
            x.room(7, 2, 99);
            x.room(7, 3, 9);
        }), x -> x.read(3, 7), 1);
        e.test(38, sentence, "40 numbers, the last one just so, and not");
        Supplier<NinthAir> forty = Starts.with(booked(100, 16, 40), x -> {
            x.room(7, 1, 0);
            x.book(3, 7);
        });
        e.keeps("just so", forty, x -> x.read(3, 7), 1000);
        e.keeps("1 more", Starts.with(forty, x -> x.write(3, 39, 62)), x -> x.read(3, 7), 0);
        e.keeps("1 less", Starts.with(forty, x -> x.write(3, 39, 60)), x -> x.read(3, 7), 0);
        e.test(38, sentence, "8 bits can't tell AIR above 127; all 64 bits are told");
        e.keeps("AIR 127", Starts.with(booked(127, 8, 1), x -> x.book(3, 7)), x -> x.read(3, 7), 1000);
        e.keeps("AIR 128", Starts.with(booked(128, 8, 1), x -> x.book(3, 7)), x -> x.read(3, 7), 0);
        e.keeps("AIR 100", Starts.with(booked(100, 64, 1), x -> x.write(3, 0, 100)), x -> x.read(3, 7), 1000);
        e.keeps("AIR 100 and 2 to the 32nd", Starts.with(booked(100, 64, 1), x -> x.write(3, 0, 100 + (1L << 32))),
                x -> x.read(3, 7), 0);
        e.test(38, NO_SHEET, "sheet 0 to 3");
        e.rangeKept("read(v, 7)", Starts.with(weighed(20), x -> x.sheet(0, 64, 0)), (x, v) -> x.read(v, 7),
                0, 1000, 3, 1000);
        e.test(38, "MISSING.", "MISSING, and there; asked ahead of the ROOM");
        e.keeps("MISSING", RICH, x -> x.read(3, 7), Due.MISSING);
        e.keeps("MISSING, no ROOM", RICH, x -> x.read(3, 8), Due.MISSING);
        e.keeps("there", ofLength(8, 0), x -> x.read(3, 7), 1000);
        e.test(38, "BEYOND: room.", "ROOM 0 to 7");
        e.rangeKept("read(3, v)", weighed(20), (x, v) -> x.read(3, v), 0, 0, 7, 1000);
        e.test(38, "BEYOND: room.", "also without numbers");
        e.rangeKept("read(3, v)", weighed(), (x, v) -> x.read(3, v), 0, 1000, 7, 1000);
    }
}
