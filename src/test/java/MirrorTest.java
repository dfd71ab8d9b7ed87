import java.lang.reflect.Method;
import java.util.ArrayList;
import java.util.HashMap;
import java.util.List;
import java.util.Map;
import java.util.Random;

/**
 * Runs of calls by a seeded chance, on the program and on the Mirror: every answer, and all that can be seen of
 * the object behind each finding, must be the same. An argument: how many runs.
 */
final class MirrorTest {
    private static final Due DUE = new Due();
    private static final int CALLS = 512;
    private static final int[] WILD = {
        Integer.MIN_VALUE, Integer.MAX_VALUE, -1000000001, -2, -1, 0, 1, 9, 41, 61, 100, 121, 9999, 10000, 100000};

    /** Of each call: how often it comes, then the least and the most of each of its arguments. */
    private static final String[] CALLS_AND_ARGUMENTS = {
        "room 8 0 7 0 3 0 9999", "roomOf 3 0 7 0 5", "door 5 0 6 0 1", "cold 2 0 1",
        "one 6 0 5 0 7", "of 3 0 7 0 5", "set 8 0 7 1 4 0 20", "turn 3 0 7 0 5", "as 3 0 7 0 5", "goes 2 0 7",
        "hours 3 1 60", "now 3 0 6", "on 3 0 7 0 60 0 1", "when 3 0 7", "first 3", "well 3",
        "doors 1", "shut 2 0 40", "fire 2 0 7 0 40", "fires 1 0 7 0 7 0 40", "sleep 3 0 7", "kind 3 0 7 0 40",
        "costs 3 0 7 0 40", "share 3 0 5 1 6",
        "swept 2 0 30", "sweeps 2 0 30", "owed 2", "leaked 3 0 7 0 40 0 9999",
        "feed 1 0 2000000000 1 4", "wipe 1", "text 1",
        "sheet 3 0 3 0 64 0 40", "write 4 0 3 0 39 0 9999", "copy 4 0 3 0 39 0 3 0 39 0 20", "lays 2 0 3",
        "book 3 0 3 0 7", "read 2 0 3 0 7",
        "image 2", "undo 1", "tear 1", "count 2 0 3", "status 2 -1 6"};

    private static final Map<String, Method> METHODS = new HashMap<>();

    public static void main(String[] args) throws Exception {
        int runs = args.length > 0 ? Integer.parseInt(args[0]) : 40;
        for (Method m : NinthAir.class.getDeclaredMethods()) {
            METHODS.put(m.getName(), m);
        }
        List<String> calls = new ArrayList<>();
        for (String call : CALLS_AND_ARGUMENTS) {
            for (int i = Integer.parseInt(call.split(" ")[1]); i > 0; i--) {
                calls.add(call);
            }
        }
        for (int run = 0; run < runs; run++) {
            run(run, calls);
        }
        DUE.end("MirrorTest");
    }

    private static void run(int seed, List<String> calls) throws Exception {
        Random chance = new Random(seed);
        NinthAir x = new NinthAir();
        Mirror mirror = new Mirror();
        for (int i = 0; i < CALLS; i++) {
            String[] call = calls.get(chance.nextInt(calls.size())).split(" ");
            if (call[0].equals("feed") || call[0].equals("text")) {
                feedSome(seed, x, mirror, randomText(chance));
            }
            long[] a = call[0].equals("room") ? roomArguments(chance) : arguments(call, chance);
            if (chance.nextInt(4) != 0) {
                makeLikely(call[0], a, mirror, chance);
            }
            long got = both(seed, x, mirror, call[0], a);
            if (got < -1000000000 || i % 50 == 0) {
                sameState(seed, x, mirror);
            }
        }
    }

    private static long[] arguments(String[] call, Random chance) {
        long[] a = new long[(call.length - 2) / 2];
        for (int i = 0; i < a.length; i++) {
            int least = Integer.parseInt(call[2 + 2 * i]);
            int most = Integer.parseInt(call[3 + 2 * i]);
            a[i] = chance.nextInt(40) == 0 ? WILD[chance.nextInt(WILD.length)]
                    : least + chance.nextInt(most - least + 1);
        }
        if (call[0].equals("sheet") && chance.nextInt(20) != 0) {
            a[1] = new int[] {0, 8, 16, 16, 64, 64}[chance.nextInt(6)];
        }
        if (call[0].equals("write") && chance.nextInt(3) == 0) {
            a[2] = chance.nextLong();
        }
        return a;
    }

    /** Arguments by which more is found than nothing, and by which not all are STIFLED after a few calls. */
    private static void makeLikely(String name, long[] a, Mirror mirror, Random chance) {
        switch (name) {
            case "hours":
                a[0] = 1 + chance.nextInt(3);
                break;
            case "set":
                a[2] = a[1] == 4 ? 0 : a[2];
                break;
            case "shut": case "fire": case "fires": case "kind": case "costs":
                a[a.length - 1] = chance.nextInt(8);
                break;
            case "copy":
                a[1] %= 5;
                a[3] %= 5;
                a[4] %= 8;
                break;
            case "swept": case "sweeps":
                a[0] = 0;
                for (int[] room : mirror.world.rooms) {
                    a[0] += chance.nextBoolean() ? room[1] : 0;
                }
                break;
            case "leaked":
                int room = chance.nextInt(8);
                int tight = chance.nextInt(10);
                a[0] = room;
                a[1] = chance.nextInt(6);
                a[2] = mirror.world.with(w -> w.rooms[room][3] = tight).on((int) a[1]).rooms[room][0];
                break;
            default:
                break;
        }
    }

    /** Mostly little AIR and FROST: with much of both nobody is ever STIFLED. */
    private static long[] roomArguments(Random chance) {
        int what = chance.nextInt(4);
        int[] most = {9999, 9999, 99, 9};
        int[] usual = {200, 300, 20, 9};
        int v = chance.nextInt(30) == 0 ? most[what] + chance.nextInt(2)
                : chance.nextInt(5) == 0 ? chance.nextInt(most[what] + 1)
                : what == 1 && chance.nextInt(2) == 0 ? chance.nextInt(12) : chance.nextInt(usual[what] + 1);
        return new long[] {chance.nextInt(100) == 0 ? 8 : chance.nextInt(8), what, v};
    }

    private static String randomText(Random chance) {
        String[] words = {"person", "dancer", "sleeper", "holder", "choir", "dreamer", "in", "need", "room", "air",
            "frost", "fire", "tight", "open", "shut", "cold", "mild", ";", "3", "0", "7", "20", "9999", "10000", "x"};
        StringBuilder text = new StringBuilder();
        int items = 1 + chance.nextInt(4);
        for (int i = 0; i < items; i++) {
            text.append(i > 0 ? chance.nextBoolean() ? ";" : " ; " : "").append(randomItem(chance));
        }
        if (chance.nextInt(3) == 0) {
            String[] tokens = text.toString().split(" ");
            tokens[chance.nextInt(tokens.length)] = words[chance.nextInt(words.length)];
            text = new StringBuilder(String.join(" ", tokens));
        }
        if (chance.nextInt(6) == 0) {
            text.setLength(chance.nextInt(text.length() + 1));
        }
        if (chance.nextInt(10) == 0 && text.length() > 0) {
            text.setCharAt(chance.nextInt(text.length()), (char) chance.nextInt(256));
        }
        return text.toString();
    }

    private static String randomItem(Random chance) {
        String[] kinds = {"person", "dancer", "sleeper", "holder", "choir", "dreamer"};
        switch (chance.nextInt(6)) {
            case 0: case 1:
                return kinds[chance.nextInt(6)] + " in " + chance.nextInt(8)
                        + (chance.nextBoolean() ? " need " + chance.nextInt(23) : "");
            case 2: case 3:
                return "room " + chance.nextInt(8)
                        + (chance.nextBoolean() ? " air " + chance.nextInt(400) : "")
                        + (chance.nextBoolean() ? " frost " + chance.nextInt(400) : "")
                        + (chance.nextBoolean() ? " fire " + chance.nextInt(60) : "")
                        + (chance.nextBoolean() ? " tight " + chance.nextInt(10) : "");
            case 4:
                return (chance.nextBoolean() ? "open " : "shut ") + chance.nextInt(8);
            default:
                return chance.nextBoolean() ? "cold" : "mild";
        }
    }

    private static void feedSome(int seed, NinthAir x, Mirror mirror, String text) throws Exception {
        for (int from = 0; from < text.length(); from += 4) {
            int n = Math.min(4, text.length() - from);
            int bytes = 0;
            for (int i = 0; i < n; i++) {
                bytes = bytes << 8 | text.charAt(from + i) & 255;
            }
            both(seed, x, mirror, "feed", new long[] {bytes, n});
        }
    }

    private static long both(int seed, NinthAir x, Mirror mirror, String name, long[] a) throws Exception {
        Method m = METHODS.get(name);
        Object[] boxed = new Object[a.length];
        StringBuilder told = new StringBuilder("run ").append(seed).append(": ").append(name).append('(');
        for (int i = 0; i < a.length; i++) {
            boxed[i] = m.getParameterTypes()[i] == long.class ? (Object) a[i] : (Object) (int) a[i];
            told.append(i > 0 ? ", " : "").append(a[i]);
        }
        long got = ((Number) m.invoke(x, boxed)).longValue();
        DUE.is(told.append(')').toString(), got, mirror.call(name, a));
        return got;
    }

    /** All that can be asked without a finding; COLD and the numbers of SHEETS by changing and setting back. */
    private static void sameState(int seed, NinthAir x, Mirror mirror) throws Exception {
        for (int r = 0; r < 8; r++) {
            for (int what = 0; what < 6; what++) {
                both(seed, x, mirror, "roomOf", new long[] {r, what});
            }
        }
        for (int what = 0; what < 7; what++) {
            both(seed, x, mirror, "now", new long[] {what});
        }
        for (int what = 0; what < 4; what++) {
            both(seed, x, mirror, "count", new long[] {what});
        }
        for (int which = -1; which < 7; which++) {
            both(seed, x, mirror, "status", new long[] {which});
        }
        for (int one = 0; one < mirror.world.people.size(); one++) {
            for (int what = 0; what < 6; what++) {
                both(seed, x, mirror, "of", new long[] {one, what});
            }
        }
        both(seed, x, mirror, "cold", new long[] {mirror.world.cold ? 1 : 0});
        for (int s = 0; s < 4; s++) {
            for (int i = 0; mirror.sheets[s] != null && i < mirror.sheets[s].length; i++) {
                both(seed, x, mirror, "write", new long[] {s, i, mirror.sheets[s][i]});
            }
        }
    }
}
