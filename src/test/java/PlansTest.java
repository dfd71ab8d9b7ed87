/** Promises 18 to 25: doors, shut, fire, fires, sleep, kind, costs, share. */
final class PlansTest {
    private static final Due DUE = new Due();

    public static void main(String[] args) {
        doors();
        shut();
        fire();
        fires();
        sleep();
        kind();
        costs();
        share();
        DUE.end("PlansTest");
    }

    private static NinthAir greedyIn(int room, int air) {
        NinthAir x = new NinthAir();
        x.one(0, room);
        x.set(0, 2, 20);
        x.room(room, 0, air);
        return x;
    }

    private static void doors() {
        NinthAir x = new NinthAir();
        x.door(3, 1);
        DUE.is("doors: nobody", x.doors(), 0);
        DUE.is("doors stay", x.now(6), 8);
        x = greedyIn(7, 0);
        x.room(6, 0, 9999);
        DUE.is("doors: the one to much AIR", x.doors(), 64);
        DUE.is("doors stay shut", x.now(6), 0);
        DUE.is("AIR stays", x.roomOf(7, 0), 0);
        x = greedyIn(0, 1200);
        x.door(0, 1);
        DUE.is("doors: all shut does, in place of what is open", x.doors(), 0);
        x.set(0, 4, 1);
        x.room(0, 0, 0);
        DUE.is("doors: who is STIFLED now is left out", x.doors(), 0);
    }

    private static void shut() {
        NinthAir x = greedyIn(7, 0);
        x.room(6, 0, 9999);
        DUE.is("shut: one to open", x.shut(1), 6);
        DUE.is("shut: doors stay", x.now(6), 0);
        x.door(6, 1);
        DUE.is("shut: none is fewer", x.shut(40), Due.NONE);
        x = greedyIn(0, 100);
        x.room(1, 0, 0);
        x.door(0, 1);
        DUE.is("shut: one to shut", x.shut(5), 0);
        DUE.is("shut: as soon as one would be", x.shut(4), 0);
        DUE.is("shut: not as early", x.shut(3), Due.NONE);
        DUE.is("shut(0)", x.shut(0), Due.NONE);
        DUE.is("shut: NONE is counted", x.status(3), 2);
        DUE.is("shut(-1)", x.shut(-1), Due.BEYOND);
        DUE.is("shut(41)", x.shut(41), Due.BEYOND);
        x = greedyIn(3, 0);
        x.room(2, 0, 1000);
        x.room(4, 0, 1000);
        DUE.is("shut: of several the least", x.shut(1), 2);
        x.one(0, 5);
        x.set(1, 2, 20);
        x.room(5, 0, 0);
        x.one(0, 5);
        DUE.is("shut: fewest, not the first that is fewer", x.shut(1), 4);
    }

    private static void fire() {
        NinthAir x = greedyIn(0, 0);
        DUE.is("fire(0, 0)", x.fire(0, 0), 0);
        DUE.is("fire: without FROST", x.fire(0, 1), Due.NONE);
        x.room(0, 1, 9999);
        DUE.is("fire(0, 40)", x.fire(0, 40), 20);
        DUE.is("fire: another ROOM", x.fire(1, 1), Due.NONE);
        x.room(0, 2, 99);
        DUE.is("fire: in place of its own", x.fire(0, 1), 20);
        DUE.is("fire: its own stays", x.roomOf(0, 2), 99);
        x.room(0, 1, 50);
        DUE.is("fire(0, 2)", x.fire(0, 2), 20);
        DUE.is("fire(0, 3): too little FROST", x.fire(0, 3), Due.NONE);
        x.set(0, 4, 1);
        DUE.is("fire: who is STIFLED now is left out", x.fire(0, 40), 0);
        DUE.is("fire(-1, 0)", x.fire(-1, 0), Due.BEYOND);
        DUE.is("fire(8, 0)", x.fire(8, 0), Due.BEYOND);
        DUE.is("fire(0, -1)", x.fire(0, -1), Due.BEYOND);
        DUE.is("fire(0, 41)", x.fire(0, 41), Due.BEYOND);
        x = new NinthAir();
        x.room(0, 0, 0);
        x.room(0, 1, 9999);
        x.one(1, 0);
        x.one(1, 0);
        x.one(1, 0);
        x.set(0, 2, 20);
        x.set(1, 2, 20);
        x.set(2, 2, 9);
        DUE.is("fire: 98", x.fire(0, 40), 98);
        x.turn(2, 0);
        x.set(2, 2, 19);
        DUE.is("fire: 99", x.fire(0, 40), 99);
        x.set(2, 2, 20);
        DUE.is("fire: 100 is too much", x.fire(0, 1), Due.NONE);
    }

    private static void fires() {
        NinthAir x = greedyIn(0, 0);
        x.one(0, 3);
        x.set(1, 2, 7);
        x.room(0, 1, 9999);
        x.room(3, 0, 0);
        x.room(3, 1, 9999);
        DUE.is("fires(0, 3, 5)", x.fires(0, 3, 5), 27);
        DUE.is("fires(3, 0, 40)", x.fires(3, 0, 40), 27);
        x.set(1, 2, 20);
        DUE.is("fires: both 20", x.fires(0, 3, 40), 40);
        x.room(0, 2, 90);
        x.room(3, 2, 90);
        DUE.is("fires: in place of their own", x.fires(0, 3, 1), 40);
        DUE.is("fires: their own stay", x.now(3), 180);
        DUE.is("fires(0, 3, 0)", x.fires(0, 3, 0), 0);
        x.turn(1, 1);
        DUE.is("fires: 40 for one ROOM", x.fires(0, 3, 1), Due.NONE);
        x.turn(1, 0);
        x.one(0, 0);
        x.set(2, 2, 1);
        DUE.is("fires: 21 for one ROOM", x.fires(0, 3, 1), Due.NONE);
        x.goes(2);
        DUE.is("fires: the other FIRE stays as it is", x.fires(0, 1, 1), 20);
        DUE.is("fires(0, 0, 1)", x.fires(0, 0, 1), Due.BEYOND);
        DUE.is("fires(-1, 0, 1)", x.fires(-1, 0, 1), Due.BEYOND);
        DUE.is("fires(8, 0, 1)", x.fires(8, 0, 1), Due.BEYOND);
        DUE.is("fires(0, -1, 1)", x.fires(0, -1, 1), Due.BEYOND);
        DUE.is("fires(0, 8, 1)", x.fires(0, 8, 1), Due.BEYOND);
        DUE.is("fires(0, 1, -1)", x.fires(0, 1, -1), Due.BEYOND);
        DUE.is("fires(0, 1, 41)", x.fires(0, 1, 41), Due.BEYOND);
    }

    private static void sleep() {
        NinthAir x = new NinthAir();
        DUE.is("sleep: nobody", x.sleep(0), Due.BEYOND);
        x.one(0, 7);
        DUE.is("sleep: all alike", x.sleep(0), 0);
        x.room(5, 0, 102);
        x.room(6, 0, 103);
        DUE.is("sleep: of two the least", x.sleep(0), 5);
        x.room(6, 0, 105);
        DUE.is("sleep: an HOUR more", x.sleep(0), 6);
        x.room(3, 0, 180);
        x.room(4, 0, 9999);
        DUE.is("sleep: 60 HOURS at most", x.sleep(0), 3);
        x.one(0, 3);
        DUE.is("sleep: not beside another", x.sleep(0), 4);
        DUE.is("sleep: ROOM stays", x.of(0, 1), 7);
        x.set(0, 4, 1);
        DUE.is("sleep: STIFLED", x.sleep(0), Due.STATE);
        DUE.is("sleep(2)", x.sleep(2), Due.BEYOND);
        DUE.is("sleep(-1)", x.sleep(-1), Due.BEYOND);
        x = greedyIn(0, 9999);
        x.one(0, 1);
        x.room(1, 0, 3);
        DUE.is("sleep: only its own breath counts", x.sleep(0), 0);
    }

    private static void kind() {
        NinthAir x = new NinthAir();
        DUE.is("kind: nobody", x.kind(0, 0), Due.BEYOND);
        x.one(5, 0);
        x.set(0, 2, 1);
        x.room(0, 0, 0);
        DUE.is("kind: who holds", x.kind(0, 1), 3);
        DUE.is("kind: nothing helps", x.kind(0, 2), 0);
        DUE.is("kind(0, 0)", x.kind(0, 0), 0);
        DUE.is("KIND stays", x.of(0, 0), 5);
        x.set(0, 2, 3);
        x.set(0, 3, 3);
        x.room(0, 0, 6);
        DUE.is("kind: who sleeps", x.kind(0, 3), 2);
        DUE.is("kind(0, -1)", x.kind(0, -1), Due.BEYOND);
        DUE.is("kind(0, 41)", x.kind(0, 41), Due.BEYOND);
        DUE.is("kind(1, 0)", x.kind(1, 0), Due.BEYOND);
        DUE.is("kind(-1, 0)", x.kind(-1, 0), Due.BEYOND);
        x = greedyIn(0, 22);
        x.one(0, 0);
        DUE.is("kind: fewest of all, not of itself", x.kind(0, 1), 2);
    }

    private static void costs() {
        NinthAir x = new NinthAir();
        DUE.is("costs: nobody", x.costs(0, 0), Due.BEYOND);
        x.one(0, 0);
        x.one(1, 1);
        DUE.is("costs(0, 5)", x.costs(0, 5), 15);
        DUE.is("costs(1, 5)", x.costs(1, 5), 30);
        DUE.is("costs(0, 0)", x.costs(0, 0), 0);
        DUE.is("costs(0, 40): all the AIR", x.costs(0, 40), 100);
        DUE.is("PEOPLE stay", x.count(0), 2);
        DUE.is("AIR stays", x.now(1), 800);
        DUE.is("costs(0, -1)", x.costs(0, -1), Due.BEYOND);
        DUE.is("costs(0, 41)", x.costs(0, 41), Due.BEYOND);
        DUE.is("costs(2, 0)", x.costs(2, 0), Due.BEYOND);
        DUE.is("costs(-1, 0)", x.costs(-1, 0), Due.BEYOND);
        // With the first the second is STIFLED at once, and the fire then serves the first alone.
        x = greedyIn(0, 0);
        x.one(0, 0);
        x.set(0, 2, 2);
        x.set(1, 2, 20);
        x.room(0, 1, 9999);
        x.room(0, 2, 20);
        DUE.is("costs: may be below 0", x.costs(0, 10), -162);
    }

    private static void share() {
        NinthAir x = new NinthAir();
        DUE.is("share: nobody", x.share(0, 1), Due.BEYOND);
        x.one(0, 0);
        x.one(1, 0);
        x.one(2, 0);
        DUE.is("share(0, 1)", x.share(0, 1), 3 * 720);
        DUE.is("share(0, 2)", x.share(0, 2), 1080);
        DUE.is("share(1, 2)", x.share(1, 2), 1080 + 2160);
        DUE.is("share(0, 3)", x.share(0, 3), 840);
        DUE.is("share(1, 3)", x.share(1, 3), 3000);
        DUE.is("share(2, 3)", x.share(2, 3), 480);
        DUE.is("share(1, 1): not below k", x.share(1, 1), Due.BEYOND);
        DUE.is("share(0, 4): fewer", x.share(0, 4), Due.BEYOND);
        DUE.is("share(0, 0)", x.share(0, 0), Due.BEYOND);
        DUE.is("share(-1, 1)", x.share(-1, 1), Due.BEYOND);
        DUE.is("share(0, -1)", x.share(0, -1), Due.BEYOND);
        x.set(1, 4, 1);
        DUE.is("share: who is STIFLED", x.share(1, 3), 0);
        for (int i = 0; i < 5; i++) {
            x.one(0, 1);
        }
        DUE.is("share(0, 7)", x.share(0, 7), Due.BEYOND);
        long all = 0;
        for (int i = 0; i < 6; i++) {
            all += x.share(i, 6);
        }
        DUE.is("share: all together are the fire", all, 3 * 720);
        x.set(1, 4, 0);
        x.set(1, 2, 20);
        DUE.is("share: own fire of 40", x.share(1, 6), 2160 / 5 - 2 * 720 / 5 + 2 * 720 / 6 + 37 * 720);
    }
}
