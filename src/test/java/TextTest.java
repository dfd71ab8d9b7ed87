/** Promises 30 to 32: feed, wipe, text. */
final class TextTest {
    private static final Due DUE = new Due();

    public static void main(String[] args) {
        feedAndWipe();
        items();
        rooms();
        faults();
        faultOfNinth();
        nothingChanges();
        DUE.end("TextTest");
    }

    private static void feedAndWipe() {
        NinthAir x = new NinthAir();
        DUE.is("feed(0, 0)", x.feed(0, 0), Due.BEYOND);
        DUE.is("feed(0, 5)", x.feed(0, 5), Due.BEYOND);
        DUE.is("feed(0, -1)", x.feed(0, -1), Due.BEYOND);
        DUE.is("feed 1", x.feed('c', 1), 1);
        DUE.is("feed the lowest", x.feed(0x7a7a0000 | 'o' << 8 | 'l', 2), 3);
        DUE.is("feed 1 more", x.feed(0xffffff00 | 'd', 1), 4);
        DUE.is("count(1)", x.count(1), 4);
        DUE.is("text: cold", x.text(), 1);
        DUE.is("cold", x.cold(0), 1);
        DUE.is("empty then", x.count(1), 0);
        for (int i = 1; i <= 29; i++) {
            x.feed(0x20202020, 4);
        }
        DUE.is("feed to 119", x.feed(0x202020, 3), 119);
        DUE.is("feed FULL", x.feed(0x2020, 2), Due.FULL);
        DUE.is("feed wrong: BEYOND first", x.feed(0x2020, 5), Due.BEYOND);
        DUE.is("feed to 120", x.feed(';', 1), 120);
        DUE.is("feed FULL again", x.feed(0, 1), Due.FULL);
        DUE.is("text of blanks", x.text(), -120);
        DUE.is("wipe of nothing", x.wipe(), 0);
        x.feed(0x01020304, 4);
        DUE.is("wipe", x.wipe(), 4);
        DUE.is("wiped", x.count(1), 0);
        DUE.is("findings", x.status(-1), 6);
    }

    private static void items() {
        NinthAir x = new NinthAir();
        DUE.is("all KINDS", Due.text(x, "person in 0;dancer in 1;sleeper in 2;holder in 3;choir in 4"), 5);
        DUE.is("all KINDS", Due.text(x, " dreamer in 5 need 20 ; person in 7 need 1"), 2);
        for (int i = 0; i < 7; i++) {
            DUE.is("KIND " + i, x.of(i, 0), i % 6);
            DUE.is("ROOM " + i, x.of(i, 1), i == 6 ? 7 : i);
            DUE.is("NEED " + i, x.of(i, 2), i == 5 ? 20 : i == 6 ? 1 : 3);
        }
        DUE.is("open", Due.text(x, "open 0;open 6;open 3"), 3);
        DUE.is("open doors", x.now(6), 73);
        DUE.is("shut", Due.text(x, "shut 0;open 1;shut 1;shut 5"), 4);
        DUE.is("shut doors", x.now(6), 72);
        DUE.is("cold", Due.text(x, "mild;cold"), 2);
        DUE.is("is cold", x.cold(1), 1);
        DUE.is("mild", Due.text(x, "   mild   "), 1);
        DUE.is("is mild", x.cold(0), 0);
        DUE.is("tokens without blanks", Due.text(x, "choir in3need7;open2"), 2);
        DUE.is("NEED", x.of(7, 2), 7);
        DUE.is("DOOR", x.now(6), 76);
        x.wipe();
        x.goes(7);
        x.goes(6);
        x.hours(9);
        DUE.is("zeros ahead of digits", Due.text(x, "holder in 00000000000000000001 need 0004"), 1);
        DUE.is("HOURS of a new one", x.of(6, 3), 0);
        DUE.is("ROOM of a new one", x.of(6, 1), 1);
        DUE.is("NEED of a new one", x.of(6, 2), 4);
        StringBuilder most = new StringBuilder("cold");
        while (most.length() + 5 <= 120) {
            most.append(";mild");
        }
        DUE.is("as many as there can be", Due.text(x, most.toString()), 24);
    }

    private static void rooms() {
        NinthAir x = new NinthAir();
        DUE.is("room", Due.text(x, "room 2 air 9999 frost 9998 fire 99 tight 9;room 3;room 4 frost 7 tight 0"), 3);
        int[] two = {9999, 9998, 99, 9};
        int[] three = {100, 0, 0, 5};
        int[] four = {100, 7, 0, 0};
        for (int what = 0; what < 4; what++) {
            DUE.is("room 2, " + what, x.roomOf(2, what), two[what]);
            DUE.is("room 3, " + what, x.roomOf(3, what), three[what]);
            DUE.is("room 4, " + what, x.roomOf(4, what), four[what]);
        }
        DUE.is("the latest is so", Due.text(x, "room 2 air 5;room 2 air 6"), 2);
        DUE.is("AIR", x.roomOf(2, 0), 6);
        DUE.is("the first and the last", Due.text(x, "room 0 air 1;room 7 air 2"), 2);
        DUE.is("AIR of the first", x.roomOf(0, 0), 1);
        DUE.is("AIR of the last", x.roomOf(7, 0), 2);
        DUE.is("0 each", Due.text(x, "room 2 air 0 frost 0 fire 0 tight 0"), 1);
        DUE.is("AIR 0", x.roomOf(2, 0), 0);
    }

    private static void fault(String text, int place) {
        NinthAir x = new NinthAir();
        DUE.is("text \"" + text + "\"", Due.text(x, text), -1 - place);
        DUE.is("THE TAPE is empty", x.count(1), 0);
        DUE.is("no finding", x.status(-1), 0);
    }

    private static void faults() {
        fault("", 0);
        fault("   ", 3);
        fault(";", 0);
        fault("cold;", 5);
        fault("cold; ", 6);
        fault("cold;;mild", 5);
        fault("cold mild", 5);
        fault("cold 3", 5);
        fault("coldmild", 0);
        fault("Cold", 0);
        fault("colD", 0);
        fault("coldD", 4);
        fault("coldz", 0);
        fault("colda", 0);
        fault("cold`", 4);
        fault("cold{", 4);
        fault("open 1:", 6);
        fault("open 1/", 6);
        fault("cold\tmild", 4);
        fault("cold\n", 4);
        fault("cold\u00ff", 4);
        fault("\u0000", 0);
        fault("12", 0);
        fault("xyz", 0);
        fault("col", 0);
        fault("in 3", 0);
        fault("air 3", 0);
        fault("open", 4);
        fault("open ", 5);
        fault("open x", 5);
        fault("open 7", 5);
        fault("open 10000", 5);
        fault("open ;", 5);
        fault("open 3 4", 7);
        fault("open 3,", 6);
        fault("shut 7", 5);
        fault("open 42949672960", 5);
        fault("person", 6);
        fault("persons in 3", 0);
        fault("person 3", 7);
        fault("person on 3", 7);
        fault("person in", 9);
        fault("person in 8", 10);
        fault("person in x", 10);
        fault("person in 3 cold", 12);
        fault("person in 3 need", 16);
        fault("person in 3 need 0", 17);
        fault("person in 3 need 21", 17);
        fault("person in 3 need x", 17);
        fault("person in 3 need 4 need 5", 19);
        fault("person in 3 ned 4", 12);
        fault("room", 4);
        fault("room 8", 5);
        fault("room x", 5);
        fault("room 2 air", 10);
        fault("room 2 air 10000", 11);
        fault("room 2 frost 10000", 13);
        fault("room 2 fire 100", 12);
        fault("room 2 tight 10", 13);
        fault("room 2 frost 1 air 1", 15);
        fault("room 2 air 1 air 1", 13);
        fault("room 2 tight 1 fire 1", 15);
        fault("room 2 air 1 need 1", 13);
        fault("room 2 air ;", 11);
        fault("cold;open 1;open 9", 17);
        fault("xyz;$", 0);
    }

    private static void faultOfNinth() {
        NinthAir x = new NinthAir();
        for (int i = 0; i < 6; i++) {
            x.one(0, 0);
        }
        DUE.is("a 9th in the text", Due.text(x, "cold;person in 1;dancer in 2; choir x"), -1 - 30);
        DUE.is("nobody came", x.count(0), 6);
        DUE.is("it isn't cold", x.cold(0), 0);
        DUE.is("an 8th in the text", Due.text(x, "person in 1;dancer in 2;mild"), 3);
        DUE.is("they came", x.count(0), 8);
        DUE.is("a 9th at once", Due.text(x, "person in 1"), -1);
        DUE.is("without people it goes", Due.text(x, "room 1 air 1"), 1);
    }

    private static void nothingChanges() {
        NinthAir x = new NinthAir();
        DUE.is("a late fault", Due.text(x,
                "person in 0;room 1 air 1 frost 1 fire 1 tight 1;open 0;cold;cold 1"), -1 - 65);
        int[] first = {100, 0, 0, 5};
        for (int what = 0; what < 4; what++) {
            DUE.is("room 1, " + what, x.roomOf(1, what), first[what]);
        }
        DUE.is("PEOPLE", x.count(0), 0);
        DUE.is("DOORS", x.now(6), 0);
        DUE.is("COLD", x.cold(0), 0);
    }
}
