import java.util.function.Supplier;

/** Boundary cases of THE TEXT of a NIGHT and of promises 30 to 32: feed, wipe, text. */
final class TextEdges {
    private static final String TAPE = "THE TEXT of a NIGHT, from THE TAPE (bytes, at most 120).";
    private static final String TOKENS = "TOKENS, each as long as can be: WORDS (letters a to z), NUMBERS (digits, "
            + "9999 at most), SIGN ; ; blanks may stand between.";
    private static final String TEXT = "TEXT: ITEM { ; ITEM }.";
    private static final String ONE = "ITEM: the name of a KIND (person dancer sleeper holder choir dreamer), in, "
            + "a NUMBER (a ROOM), perhaps need and a NUMBER (1 to 20): a new one of PEOPLE;";
    private static final String ROOM = "room, a NUMBER (a ROOM), perhaps air and a NUMBER, perhaps frost and a NUMBER "
            + "(0 to 9999 both), perhaps fire and a NUMBER (0 to 99), perhaps tight and a NUMBER (0 to 9): "
            + "that is so there;";
    private static final String DOOR = "open or shut, a NUMBER (a DOOR);";
    private static final String COLD = "cold or mild: it is COLD or not.";
    private static final String FAULT = "FAULT: the place (from 0) of the first byte of the first TOKEN that can't "
            + "stand there (a NUMBER that may not be, another WORD, a byte that begins no TOKEN, the name of a KIND "
            + "for a 9th: its own), or how many bytes there are if it ends too early.";
    private static final Supplier<NinthAir> RICH = Starts::rich;

    private TextEdges() {
    }

    static void all(Edges e) {
        tape(e);
        signs(e);
        numbers(e);
        longAsCanBe(e);
        items(e);
        people(e);
        rooms(e);
        doorsAndCold(e);
        faults(e);
        early(e);
        ninth(e);
        feed(e);
        wipe(e);
        text(e);
    }

    /** The text is one: how many ITEMS it has, no finding, and THE TAPE is empty then. */
    private static NinthAir told(Edges e, String text, int items) {
        NinthAir x = e.allowed("\"" + text + "\"", () -> Starts.fed(text), y -> y.text(), items);
        e.is("\"" + text + "\": THE TAPE", x.count(1), 0);
        return x;
    }

    /** Nothing changes but that THE TAPE is empty; no finding. */
    private static void fault(Edges e, String text, int place) {
        fault(e, RICH, text, place);
    }

    private static void fault(Edges e, Supplier<NinthAir> start, String text, int place) {
        NinthAir x = start.get();
        x.wipe();
        Due.feed(x, text);
        NinthAir twin = start.get();
        twin.wipe();
        e.is("\"" + text + "\"", x.text(), -1 - place);
        e.is("\"" + text + "\": THE TAPE", x.count(1), 0);
        for (int which = -1; which < 7; which++) {
            e.is("\"" + text + "\": status(" + which + ")", x.status(which), twin.status(which));
        }
        e.same("\"" + text + "\"", x, twin);
    }

    /** "mild;mild;..", its last ITEM another one, of 119 bytes in all. */
    private static String long119(String last) {
        return "mild;".repeat(23) + last;
    }

    private static void tape(Edges e) {
        e.test(0, TAPE, "120 bytes are read to the last one");
        e.is("it is COLD", told(e, long119("cold") + " ", 24).cold(0), 1);
        e.is("it is mild", told(e, long119("mild") + " ", 24).cold(0), 0);
        fault(e, long119("cold") + ";", 120);
        fault(e, long119("cold") + "x", 115);
        e.test(0, TAPE, "bytes above 127 are none of the letters");
        fault(e, "\u00e3old", 0);
        fault(e, "cold\u00ff", 4);
        fault(e, "cold\u0080", 4);
        fault(e, "\u0000", 0);
    }

    private static void signs(Edges e) {
        e.test(0, TOKENS, "letters a to z, and the signs beside them");
        fault(e, "cold`", 4);
        fault(e, "colda", 0);
        fault(e, "coldz", 0);
        fault(e, "cold{", 4);
        fault(e, "Cold", 0);
        fault(e, "coldA", 4);
        told(e, "cold", 1);
        e.test(0, TOKENS, "digits 0 to 9, and the signs beside them");
        fault(e, "room 1 air 1/", 12);
        told(e, "room 1 air 10", 1);
        told(e, "room 1 air 19", 1);
        fault(e, "room 1 air 1:", 12);
        e.test(0, TOKENS, "SIGN ; and the signs beside it");
        fault(e, "cold:mild", 4);
        told(e, "cold;mild", 2);
        fault(e, "cold<mild", 4);
        e.test(0, TOKENS, "the blank and the signs beside it");
        fault(e, "open\u001f1", 4);
        told(e, "open 1", 1);
        fault(e, "open!1", 4);
        fault(e, "open\t1", 4);
        fault(e, "open\n1", 4);
        e.test(0, TOKENS, "blanks may stand between: none, one, many, at both ends");
        told(e, "open1;room2air3;mild", 3);
        told(e, "open 1 ; room 2 air 3 ; mild", 3);
        told(e, "   open   1   ;   mild   ", 2);
        fault(e, "op en 1", 0);
        fault(e, "room 1 air 1 1", 13);
        fault(e, "openroom 1", 0);
    }

    private static void numbers(Edges e) {
        e.test(0, TOKENS, "NUMBERS 9999 at most");
        e.is("AIR 9999", told(e, "room 0 air 9999", 1).roomOf(0, 0), 9999);
        fault(e, "room 0 air 10000", 11);
        e.test(0, TOKENS, "NUMBERS that would wrap around");
        fault(e, "room 0 air 2147483648", 11);
        fault(e, "room 0 air 4294967296", 11);
        fault(e, "room 0 air 4294967301", 11);
        fault(e, "room 0 air 18446744073709551616", 11);
        fault(e, "room 4294967296", 5);
        fault(e, "room 0 air 1" + "0".repeat(64), 11);
        e.test(0, TOKENS, "NUMBERS with zeros ahead");
        e.is("AIR 9999", told(e, "room 0 air 00009999", 1).roomOf(0, 0), 9999);
        fault(e, "room 0 air 00010000", 11);
        e.is("AIR 0", told(e, "room 0 air " + "0".repeat(60), 1).roomOf(0, 0), 0);
    }

    private static void longAsCanBe(Edges e) {
        e.test(0, TOKENS, "each as long as can be: no WORD ends within letters");
        fault(e, "coldmild", 0);
        fault(e, "cold;coldcold", 5);
        fault(e, "person inn 3", 7);
        fault(e, "person in 3 needs 4", 12);
        fault(e, "room 3 airs 4", 7);
        fault(e, "persons in 3", 0);
        fault(e, "perso in 3", 0);
        fault(e, "col", 0);
        e.test(0, TOKENS, "each as long as can be: no NUMBER ends within digits");
        fault(e, "open 10", 5);
        fault(e, "room 77", 5);
        fault(e, "person in 33", 10);
        e.is("AIR 12", told(e, "room 3 air 12", 1).roomOf(3, 0), 12);
    }

    private static void items(Edges e) {
        e.test(0, TEXT, "one ITEM, none");
        told(e, "mild", 1);
        fault(e, "", 0);
        fault(e, "   ", 3);
        e.test(0, TEXT, "SIGN ; stands between ITEMS, not ahead of them nor behind them");
        told(e, "mild;mild", 2);
        fault(e, ";mild", 0);
        fault(e, "mild;", 5);
        fault(e, "mild;;mild", 5);
        fault(e, "mild mild", 5);
        fault(e, ";", 0);
        e.test(0, TEXT, "as many ITEMS as bytes can be");
        told(e, long119("mild"), 24);
    }

    private static void people(Edges e) {
        String[] names = {"person", "dancer", "sleeper", "holder", "choir", "dreamer"};
        for (int kind = 0; kind < 6; kind++) {
            e.test(0, ONE, "the name of KIND " + kind);
            NinthAir x = told(e, names[kind] + " in 5", 1);
            int[] due = {kind, 5, 3, 0, 0};
            for (int what = 0; what < 5; what++) {
                e.is("of(3, " + what + ")", x.of(3, what), due[what]);
            }
            fault(e, names[kind].substring(1) + " in 5", 0);
            fault(e, names[kind] + "s in 5", 0);
        }
        e.test(0, ONE, "ROOM 0 to 7");
        e.is("ROOM", told(e, "person in 0", 1).of(3, 1), 0);
        e.is("ROOM", told(e, "person in 7", 1).of(3, 1), 7);
        fault(e, "person in 8", 10);
        fault(e, "person in -1", 10);
        e.test(0, ONE, "NEED 1 to 20");
        fault(e, "person in 2 need 0", 17);
        e.is("NEED", told(e, "person in 2 need 1", 1).of(3, 2), 1);
        e.is("NEED", told(e, "person in 2 need 20", 1).of(3, 2), 20);
        fault(e, "person in 2 need 21", 17);
        e.test(0, ONE, "perhaps need, once");
        e.is("NEED", told(e, "person in 2", 1).of(3, 2), 3);
        fault(e, "person in 2 need 4 need 4", 19);
        fault(e, "person need 4 in 2", 7);
        fault(e, "person in 2 air 4", 12);
        fault(e, "person 2", 7);
        e.test(0, ONE, "HOURS of who comes late");
        e.is("HOURS", told(e, "holder in 2", 1).of(3, 3), 0);
    }

    private static void rooms(Edges e) {
        e.test(0, ROOM, "ROOM 0 to 7");
        e.is("AIR", told(e, "room 0 air 5", 1).roomOf(0, 0), 5);
        e.is("AIR", told(e, "room 7 air 5", 1).roomOf(7, 0), 5);
        fault(e, "room 8 air 5", 5);
        String[] names = {"air", "frost", "fire", "tight"};
        int[] most = {9999, 9999, 99, 9};
        for (int what = 0; what < 4; what++) {
            e.test(0, ROOM, names[what] + " 0 to " + most[what]);
            String ahead = "room 3 " + names[what] + " ";
            e.is("0", told(e, ahead + 0, 1).roomOf(3, what), 0);
            e.is("the most", told(e, ahead + most[what], 1).roomOf(3, what), most[what]);
            fault(e, ahead + (most[what] + 1), ahead.length());
        }
        e.test(0, ROOM, "perhaps: none, each alone, all");
        e.same("room 3", told(e, "room 3", 1), Starts.fed(""));
        NinthAir x = told(e, "room 3 air 1 frost 2 fire 3 tight 4", 1);
        for (int what = 0; what < 4; what++) {
            e.is("all: " + names[what], x.roomOf(3, what), what + 1);
        }
        x = told(e, "room 3 air 1 tight 4", 1);
        e.is("FROST stays", x.roomOf(3, 1), 33);
        e.is("FIRE stays", x.roomOf(3, 2), 13);
        e.test(0, ROOM, "in that order, once each");
        fault(e, "room 3 frost 2 air 1", 15);
        fault(e, "room 3 fire 2 frost 1", 14);
        fault(e, "room 3 tight 2 fire 1", 15);
        fault(e, "room 3 air 2 air 2", 13);
        fault(e, "room 3 tight 2 tight 2", 15);
        fault(e, "room 3 need 2", 7);
    }

    private static void doorsAndCold(Edges e) {
        e.test(0, DOOR, "open: DOOR 0 to 6");
        e.is("DOORS", told(e, "open 0", 1).now(6), 19);
        e.is("DOORS", told(e, "open 6", 1).now(6), 82);
        fault(e, "open 7", 5);
        e.test(0, DOOR, "shut: DOOR 0 to 6");
        e.is("DOORS", told(e, "open 0;shut 0", 2).now(6), 18);
        e.is("DOORS", told(e, "open 6;shut 6", 2).now(6), 18);
        fault(e, "shut 7", 5);
        e.test(0, DOOR, "one NUMBER");
        fault(e, "open 1 2", 7);
        fault(e, "shut 1 2", 7);
        fault(e, "open all", 5);
        fault(e, "shut all", 5);
        e.test(0, DOOR, "open what is open, shut what is shut");
        e.is("DOORS", told(e, "open 1;shut 0", 2).now(6), 18);
        e.test(0, COLD, "cold, cold again, mild, mild again");
        e.is("COLD", told(e, "cold", 1).cold(0), 1);
        e.is("COLD", told(e, "mild", 1).cold(0), 0);
        e.is("COLD", told(e, "mild;mild;cold;cold", 4).cold(0), 1);
        e.is("COLD", told(e, "cold;mild", 2).cold(0), 0);
        fault(e, "cold 1", 5);
        fault(e, "mild 0", 5);
    }

    private static void faults(Edges e) {
        e.test(0, FAULT, "the place from 0: of the first byte, of the last one");
        fault(e, "?", 0);
        fault(e, "mild;open 1;?", 12);
        fault(e, long119("mild") + "?", 119);
        e.test(0, FAULT, "of the first TOKEN that can't stand there, though another follows");
        fault(e, "open 9;open 9", 5);
        fault(e, "open 1;open 9;$", 12);
        fault(e, "open $;open 9", 5);
        fault(e, "x;$;99", 0);
        e.test(0, FAULT, "a NUMBER that may not be");
        fault(e, "12", 0);
        fault(e, "open 99999", 5);
        fault(e, "mild;9999", 5);
        fault(e, "person 10000 3", 7);
        e.test(0, FAULT, "another WORD");
        fault(e, "in 3", 0);
        fault(e, "need 3", 0);
        fault(e, "air 3", 0);
        fault(e, "night", 0);
        fault(e, "person on 3", 7);
        fault(e, "person in three", 10);
        fault(e, "person in 3 mild", 12);
        fault(e, "room three", 5);
        fault(e, "room 3 air much", 11);
        e.test(0, FAULT, "a byte that begins no TOKEN, where none may stand and where one must");
        fault(e, "mild.", 4);
        fault(e, "open -1", 5);
        fault(e, "open 1.", 6);
        fault(e, "room 3 air +5", 11);
        e.test(0, FAULT, "SIGN ; where it can't stand");
        fault(e, "person;", 6);
        fault(e, "person in;", 9);
        fault(e, "person in 3 need;", 16);
        fault(e, "room;", 4);
        fault(e, "room 3 tight ;", 13);
        fault(e, "open;", 4);
        fault(e, "shut ;", 5);
    }

    /** It ends too early, without blanks behind it and with two. */
    private static void endsEarly(Edges e, String text) {
        e.test(0, FAULT, "ends too early: \"" + text + "\"");
        fault(e, text, text.length());
        fault(e, text + "  ", text.length() + 2);
    }

    private static void early(Edges e) {
        for (String text : new String[] {"", "person", "dreamer in", "person in 3 need", "room", "room 3 air",
            "room 3 frost", "room 3 fire", "room 3 tight", "room 3 air 1 tight", "open", "shut", "mild;"}) {
            endsEarly(e, text);
        }
    }

    private static void ninth(Edges e) {
        Supplier<NinthAir> seven = Starts.with(() -> Starts.richWith(7), x -> x.wipe());
        Supplier<NinthAir> eight = Starts.with(() -> Starts.richWith(8), x -> x.wipe());
        e.test(0, FAULT, "the name of a KIND for a 9th: its own, an 8th comes");
        NinthAir x = seven.get();
        e.is("an 8th", Due.text(x, "mild;choir in 6 need 2"), 2);
        e.is("PEOPLE", x.count(0), 8);
        e.is("KIND", x.of(7, 0), 4);
        fault(e, eight, "choir in 6 need 2", 0);
        e.test(0, FAULT, "a 9th behind an 8th of the same text");
        fault(e, seven, "person in 0; dreamer in 1", 13);
        e.test(0, FAULT, "a 9th: its own place, though more is wrong behind it");
        fault(e, eight, "mild;person", 5);
        fault(e, eight, "person on 99", 0);
        e.test(0, FAULT, "without a 9th 8 are no FAULT");
        x = eight.get();
        e.is("room", Due.text(x, "room 1 air 1;open 0;mild"), 3);
        e.is("PEOPLE", x.count(0), 8);
    }

    private static Supplier<NinthAir> bytes(int n) {
        return () -> Starts.fed((long119("mild") + " ").substring(0, n));
    }

    private static void feed(Edges e) {
        String gets = "THE TAPE gets the n lowest bytes of a number behind it, the highest of these first (n 1 to 4): "
                + "how many it has.";
        e.test(30, gets, "n 1, n 4");
        NinthAir x = e.allowed("feed(1)", () -> Starts.fed("col"), y -> y.feed(0x7a7a7a64, 1), 4);
        e.is("cold", x.text(), 1);
        x = e.allowed("feed(4)", () -> Starts.fed(""), y -> y.feed(0x6d696c64, 4), 4);
        e.is("mild", x.text(), 1);
        e.test(30, gets, "the n lowest, the highest of these first: n 2, n 3");
        x = e.allowed("feed(2)", () -> Starts.fed("co"), y -> y.feed(0x7a7a6c64, 2), 4);
        e.is("cold", x.text(), 1);
        x = e.allowed("feed(3)", () -> Starts.fed("m"), y -> y.feed(0x7a696c64, 3), 4);
        e.is("mild", x.text(), 1);
        e.test(30, gets, "a number below 0");
        x = e.allowed("feed(-1, 4)", () -> Starts.fed("mild"), y -> y.feed(-1, 4), 8);
        e.is("bytes 255", x.text(), -5);
        x = e.allowed("feed(1)", () -> Starts.fed("col"), y -> y.feed(0x80000064, 1), 4);
        e.is("cold", x.text(), 1);
        x = e.allowed("the least", () -> Starts.fed("cold"), y -> y.feed(Integer.MIN_VALUE, 4), 8);
        e.is("a byte 128", x.text(), -5);
        e.test(30, "BEYOND: n.", "n 1 to 4");
        e.range("feed(0, v)", RICH, (y, v) -> y.feed(0, v), 1, 21, 4, 24);
        e.test(30, "BEYOND: n.", "any number may be fed");
        for (int number : new int[] {0, -1, Integer.MIN_VALUE, Integer.MAX_VALUE}) {
            e.allowed("feed(" + number + ", 4)", RICH, y -> y.feed(number, 4), 24);
        }
        for (int i = 1; i <= 4; i++) {
            int n = i;
            e.test(30, "FULL.", "120 bytes by n " + n + ", and 1 more");
            e.is("bytes", e.allowed("at " + (120 - n), bytes(120 - n), y -> y.feed(0x20202020, n), 120).count(1), 120);
            e.keeps("at " + (121 - n), bytes(121 - n), y -> y.feed(0x20202020, n), Due.FULL);
        }
        e.test(30, "FULL.", "of 4 bytes none comes where 3 have place");
        e.keeps("at 117", bytes(117), y -> y.feed(0x20202020, 4), Due.FULL);
        e.allowed("at 117", bytes(117), y -> y.feed(0x20202020, 3), 120);
        e.test(30, "FULL.", "asked behind BEYOND");
        for (int n : new int[] {0, 5, -1, Integer.MAX_VALUE, Integer.MIN_VALUE}) {
            e.keeps("feed(0, " + n + ") at 120", bytes(120), y -> y.feed(0, n), Due.BEYOND);
        }
        e.test(30, "FULL.", "no longer when THE TAPE is empty again");
        e.allowed("after wipe()", Starts.with(bytes(120), y -> y.wipe()), y -> y.feed(0, 4), 4);
        e.allowed("after text()", Starts.with(bytes(120), y -> y.text()), y -> y.feed(0, 4), 4);
    }

    private static void wipe(Edges e) {
        String sentence = "THE TAPE is empty: how many it had.";
        e.test(31, sentence, "empty, 1 byte, 120 bytes");
        for (int n : new int[] {0, 1, 120}) {
            NinthAir x = e.allowed("of " + n, bytes(n), y -> y.wipe(), n);
            e.is("then", x.count(1), 0);
            e.is("again", x.wipe(), 0);
        }
        e.test(31, sentence, "nothing else changes");
        NinthAir x = Starts.rich();
        x.wipe();
        Due.feed(x, "room 6 air 77;open 5");
        e.same("wipe() and the same again", x, Starts.rich());
        e.test(31, sentence, "nothing of what it had is read later");
        x = Starts.fed("cold;mild");
        x.wipe();
        Due.feed(x, "cold");
        e.is("text()", x.text(), 1);
    }

    private static void text(Edges e) {
        String sentence = "THE TAPE is THE TEXT of a NIGHT, whose ITEMS come to what there is, and empty then: "
                + "how many ITEMS.";
        e.test(32, sentence, "1 ITEM, 24 ITEMS");
        told(e, "mild", 1);
        told(e, long119("mild"), 24);
        e.test(32, sentence, "they come to what there is, in their order");
        NinthAir x = told(e, "room 3 air 1;room 3 air 2;open 0;shut 0;person in 0", 5);
        e.is("AIR: the later one", x.roomOf(3, 0), 2);
        e.is("DOORS as they were", x.now(6), 18);
        e.is("one more of PEOPLE", x.count(0), 4);
        e.is("the others as they were", x.of(2, 2), 9);
        e.is("HOUR as it was", x.now(0), 3);
        e.test(32, sentence, "empty then: the same text is none again");
        x = told(e, "mild", 1);
        e.is("text() again", x.text(), -1);
        e.test(32, sentence, "it can't be undone by itself: the image is as it was");
        e.is("undo()", told(e, "person in 0", 1).undo(), 1);
        String fault = "With a FAULT: -1 less its place (nothing changes but that THE TAPE is empty; no finding).";
        e.test(32, fault, "place 0: -1; an empty TAPE");
        fault(e, "", 0);
        fault(e, "x", 0);
        e.test(32, fault, "the greatest place: 120 bytes that end too early");
        fault(e, long119("mild") + ";", 120);
        e.test(32, fault, "nothing changes, though ITEMS ahead of it would");
        fault(e, "person in 0;room 3 air 1 frost 2 fire 3 tight 4;open 0;shut 1;mild;x", 67);
        fault(e, "mild;open 0;", 12);
        e.test(32, fault, "what is fed then is all that is read");
        x = Starts.fed("x");
        x.text();
        Due.feed(x, "mild");
        e.is("text()", x.text(), 1);
    }
}
