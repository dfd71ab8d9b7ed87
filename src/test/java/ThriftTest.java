import java.lang.management.ManagementFactory;

/** Calls make no objects: what a run makes is counted, and all rows are made with the object. */
final class ThriftTest {
    private static final Due DUE = new Due();

    public static void main(String[] args) {
        com.sun.management.ThreadMXBean bean =
                (com.sun.management.ThreadMXBean) ManagementFactory.getThreadMXBean();
        long me = Thread.currentThread().getId();
        NinthAir x = new NinthAir();
        everyCall(x);
        bean.getThreadAllocatedBytes(me);
        long before = bean.getThreadAllocatedBytes(me);
        for (int i = 0; i < 100; i++) {
            everyCall(x);
        }
        long made = bean.getThreadAllocatedBytes(me) - before;
        // The machine itself may take a little; an object in each round would be 1600 bytes at least.
        DUE.that("a hundred rounds of all calls make no objects: " + made + " bytes", made < 1600);
        before = bean.getThreadAllocatedBytes(me);
        for (int i = 0; i < 100; i++) {
            new NinthAir();
        }
        long one = (bean.getThreadAllocatedBytes(me) - before) / 100;
        DUE.that("an object is small: " + one + " bytes", one > 0 && one < 5000);
        DUE.end("ThriftTest");
    }

    private static void everyCall(NinthAir x) {
        x.room(0, 0, 100);
        x.roomOf(0, 5);
        x.door(1, 1);
        x.cold(1);
        x.one(4, 1);
        x.of(0, 5);
        x.set(0, 4, 0);
        x.turn(0, 5);
        x.as(0, 5);
        x.hours(1);
        x.now(5);
        x.on(1, 3, 0);
        x.when(0);
        x.first();
        x.well();
        x.doors();
        x.shut(3);
        x.fire(1, 3);
        x.fires(1, 2, 3);
        x.sleep(0);
        x.kind(0, 3);
        x.costs(0, 3);
        x.share(0, 1);
        x.swept(3);
        x.sweeps(3);
        x.owed();
        x.leaked(1, 3, 10);
        x.feed(0x636f6c64, 4);
        x.text();
        x.feed(0x726f6f6d, 4);
        x.text();
        x.wipe();
        x.sheet(0, 16, 5);
        x.write(0, 1, 7);
        x.copy(0, 0, 0, 1, 3);
        x.book(0, 1);
        x.read(0, 1);
        x.lays(0);
        x.image();
        x.undo();
        x.tear();
        x.count(2);
        x.status(-1);
        x.status(9);
        x.goes(0);
    }
}
