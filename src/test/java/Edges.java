import java.util.ArrayList;
import java.util.List;
import java.util.function.Supplier;
import java.util.function.ToLongFunction;

/**
 * Asks for the boundary cases that the document names. Each test names its promise (0: the Terms alone) and the
 * sentence, and stands on both sides of the boundary. Behind a refused call all that can be seen of the object is
 * compared with a twin that was not called.
 */
final class Edges {
    /** A call with one argument left open, whose boundaries are looked at. */
    interface Act {
        long on(NinthAir x, int v);
    }

    static final class Test {
        final int promise;
        final String sentence;
        final String edge;
        int asked;

        Test(int promise, String sentence, String edge) {
            this.promise = promise;
            this.sentence = sentence;
            this.edge = edge;
        }

        String name() {
            return (promise == 0 ? "Terms" : "promise " + promise) + ", \"" + sentence + "\", " + edge;
        }
    }

    final List<Test> tests = new ArrayList<>();
    private final Due due = new Due();
    private Test test;

    void test(int promise, String sentence, String edge) {
        test = new Test(promise, sentence, edge);
        tests.add(test);
    }

    void is(String call, long got, long want) {
        test.asked++;
        due.is(test.name() + ": " + call, got, want);
    }

    /** Not of one test, but of all of them together. */
    void that(String claim, boolean holds) {
        due.that(claim, holds);
    }

    static boolean isFinding(long answer) {
        return answer <= Due.BEYOND && answer >= Due.SIZE;
    }

    /** The answer is due, and is counted in status() only if it is a finding: the object, for more to be asked. */
    NinthAir allowed(String call, Supplier<NinthAir> start, ToLongFunction<NinthAir> act, long want) {
        NinthAir x = start.get();
        int before = x.status(-1);
        is(call, act.applyAsLong(x), want);
        is(call + ", then status(-1)", x.status(-1), before + (isFinding(want) ? 1 : 0));
        return x;
    }

    /** The answer is due, and nothing changes; a finding is counted as what it is. */
    void keeps(String call, Supplier<NinthAir> start, ToLongFunction<NinthAir> act, long want) {
        NinthAir called = start.get();
        NinthAir twin = start.get();
        is(call, act.applyAsLong(called), want);
        for (int which = -1; which < 7; which++) {
            boolean counted = isFinding(want) && (which == -1 || which == Due.BEYOND - want);
            is(call + ", then status(" + which + ")", called.status(which),
                    twin.status(which) + (counted ? 1 : 0));
        }
        same(call, called, twin);
    }

    /** Whatever the answer is that isn't asked for here: nothing changes. */
    void keepsAll(String call, Supplier<NinthAir> start, ToLongFunction<NinthAir> act) {
        keeps(call, start, act, act.applyAsLong(start.get()));
    }

    /** Both objects are used up: to tell THE TAPE, the sheets and the image they are read, written and undone. */
    void same(String call, NinthAir called, NinthAir twin) {
        List<String> got = Seen.all(called);
        List<String> want = Seen.all(twin);
        test.asked++;
        String differs = got.size() == want.size() ? "" : "more or less can be seen";
        for (int i = 0; i < Math.min(got.size(), want.size()) && differs.isEmpty(); i++) {
            differs = got.get(i).equals(want.get(i)) ? "" : got.get(i) + " instead of " + want.get(i);
        }
        due.that(test.name() + ": " + call + " changes nothing else, but " + differs, differs.isEmpty());
    }

    /** An argument of least to most: allowed at both ends, BEYOND a step further and as far as an int goes. */
    void range(String call, Supplier<NinthAir> start, Act act, int least, long atLeast, int most, long atMost) {
        allowed(call + ", v " + least, start, x -> act.on(x, least), atLeast);
        allowed(call + ", v " + most, start, x -> act.on(x, most), atMost);
        refusedAround(call, start, act, least, most);
    }

    /** The same of a call that changes nothing where it is allowed, either. */
    void rangeKept(String call, Supplier<NinthAir> start, Act act, int least, long atLeast, int most, long atMost) {
        keeps(call + ", v " + least, start, x -> act.on(x, least), atLeast);
        keeps(call + ", v " + most, start, x -> act.on(x, most), atMost);
        refusedAround(call, start, act, least, most);
    }

    private void refusedAround(String call, Supplier<NinthAir> start, Act act, int least, int most) {
        for (int v : new int[] {least - 1, most + 1, Integer.MIN_VALUE, Integer.MAX_VALUE}) {
            keeps(call + ", v " + v, start, x -> act.on(x, v), Due.BEYOND);
        }
    }

    void end(String name) {
        System.out.println(name + ": " + tests.size() + " boundary cases");
        due.end(name);
    }
}
