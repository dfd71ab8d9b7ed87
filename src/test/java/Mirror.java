import java.math.BigInteger;
import java.util.ArrayList;
import java.util.List;
import java.util.function.Consumer;
import java.util.function.ToIntFunction;

/**
 * The document once more, written apart from the program and in other ways (classes for KINDS, copies for ON,
 * all orders one by one for a SHARE, a list of TOKENS for THE TEXT): what each call should answer.
 */
final class Mirror {
    private static final String[] NAMES = {"person", "dancer", "sleeper", "holder", "choir", "dreamer"};

    static class Person {
        int room;
        int need = 3;
        int hours;
        boolean stifled;

        int full(World w) {
            return need;
        }

        final int breathes(World w) {
            return stifled ? 0 : full(w);
        }
    }

    static class Dancer extends Person {
        @Override int full(World w) {
            return 2 * super.full(w);
        }
    }

    static class Sleeper extends Person {
        @Override int full(World w) {
            return super.full(w) / 2 + 1;
        }
    }

    static class Holder extends Person {
        @Override int full(World w) {
            return hours < need ? 0 : super.full(w);
        }
    }

    static class Choir extends Dancer {
        @Override int full(World w) {
            long others = w.people.stream()
                    .filter(p -> p != this && p instanceof Choir && p.room == room && !p.stifled).count();
            return super.full(w) + (int) others;
        }
    }

    static class Dreamer extends Sleeper {
        @Override int full(World w) {
            return super.full(w) + 1;
        }
    }

    private static final Class<?>[] KINDS = {
        Person.class, Dancer.class, Sleeper.class, Holder.class, Choir.class, Dreamer.class};

    private static Person made(int kind) {
        switch (kind) {
            case 0: return new Person();
            case 1: return new Dancer();
            case 2: return new Sleeper();
            case 3: return new Holder();
            case 4: return new Choir();
            default: return new Dreamer();
        }
    }

    private static int kindOf(Person p) {
        for (int k = 0; k < 6; k++) {
            if (p.getClass() == KINDS[k]) {
                return k;
            }
        }
        throw new IllegalStateException();
    }

    private static Person as(Person p, int kind) {
        Person q = made(kind);
        q.room = p.room;
        q.need = p.need;
        q.hours = p.hours;
        q.stifled = p.stifled;
        return q;
    }

    static final class World {
        final int[][] rooms = new int[8][];
        final boolean[] open = new boolean[7];
        boolean cold;
        int hour;
        final List<Person> people = new ArrayList<>();

        World() {
            for (int r = 0; r < 8; r++) {
                rooms[r] = new int[] {100, 0, 0, 5};
            }
        }

        World twin() {
            World w = new World();
            for (int r = 0; r < 8; r++) {
                w.rooms[r] = rooms[r].clone();
            }
            System.arraycopy(open, 0, w.open, 0, 7);
            w.cold = cold;
            w.hour = hour;
            for (Person p : people) {
                w.people.add(as(p, kindOf(p)));
            }
            return w;
        }

        World with(Consumer<World> change) {
            World w = twin();
            change.accept(w);
            return w;
        }

        /** ON n HOURS. */
        World on(int n) {
            World w = twin();
            for (int i = 0; i < n; i++) {
                w.anHour();
            }
            return w;
        }

        void anHour() {
            for (int[] r : rooms) {
                int falls = cold ? (int) Math.floor(r[0] * (9 - r[3]) / 20.0) : 0;
                r[0] = r[0] - falls;
                r[1] = Math.min(r[1] + falls, 9999);
            }
            for (int[] r : rooms) {
                int rises = r[2] > r[1] ? r[1] : r[2];
                r[1] -= rises;
                r[0] = Math.min(r[0] + rises, 9999);
            }
            for (int d = 0; d < 7; d++) {
                if (open[d]) {
                    int[] rich = rooms[d][0] > rooms[d + 1][0] ? rooms[d] : rooms[d + 1];
                    int[] poor = rich == rooms[d] ? rooms[d + 1] : rooms[d];
                    int goes = (rich[0] - poor[0]) / 4;
                    rich[0] -= goes;
                    poor[0] += goes;
                }
            }
            for (Person p : people) {
                int left = rooms[p.room][0] - p.breathes(this);
                p.stifled |= left < 0;
                rooms[p.room][0] = Math.max(left, 0);
            }
            for (Person p : people) {
                p.hours = p.hours == 999 ? 999 : p.hours + 1;
            }
            hour++;
        }

        int stifled() {
            return (int) people.stream().filter(p -> p.stifled).count();
        }

        boolean well(int n) {
            return on(n).stifled() == stifled();
        }

        int wellFor() {
            int n = 60;
            while (!well(n)) {
                n--;
            }
            return n;
        }

        /** In how many HOURS one is STIFLED; 61 if in none of 60. */
        int when(int one) {
            World w = twin();
            int n = 0;
            while (n <= 60 && !w.people.get(one).stifled) {
                w.anHour();
                n++;
            }
            return n;
        }

        int air() {
            return all(r -> r[0]);
        }

        int all(ToIntFunction<int[]> of) {
            int sum = 0;
            for (int[] r : rooms) {
                sum += of.applyAsInt(r);
            }
            return sum;
        }
    }

    static final class Fault extends Exception {
        private static final long serialVersionUID = 1;
        final int place;

        Fault(int place) {
            super(null, null, false, false);
            this.place = place;
        }
    }

    World world = new World();
    World kept;
    final StringBuilder tape = new StringBuilder();
    final long[][] sheets = new long[4][];
    final int[] bits = new int[4];
    final int[] answered = new int[7];

    long call(String name, long[] a) {
        long answer = answer(name, a);
        boolean number = name.equals("write") && sheetNumberAnswered;
        if (answer < -1000000000 && !number) {
            answered[(int) (-1000000001 - answer)]++;
        }
        return answer;
    }

    private boolean sheetNumberAnswered;

    private static boolean in(long v, long least, long most) {
        return least <= v && v <= most;
    }

    private boolean someone(long one) {
        return in(one, 0, world.people.size() - 1);
    }

    private long answer(String name, long[] a) {
        switch (name) {
            case "room": case "roomOf": case "door": case "cold": return rooms(name, a);
            case "one": case "of": case "set": case "turn": case "as": case "goes": return people(name, a);
            case "hours": case "now": case "on": case "when": case "first": case "well": return hours(name, a);
            case "doors": case "shut": case "fire": case "fires": return doorsAndFires(name, a);
            case "sleep": case "kind": case "costs": case "share": return sleepers(name, a);
            case "swept": case "sweeps": case "owed": case "leaked": return dawn(name, a);
            case "feed": case "wipe": case "text": return tapes(name, a);
            case "image": case "undo": case "tear": case "count": case "status": return images(name, a);
            default: return sheets(name, a);
        }
    }

    private long rooms(String name, long[] a) {
        if (name.equals("cold")) {
            if (!in(a[0], 0, 1)) {
                return Due.BEYOND;
            }
            int was = world.cold ? 1 : 0;
            world.cold = a[0] == 1;
            return was;
        }
        if (name.equals("door")) {
            if (!in(a[0], 0, 6) || !in(a[1], 0, 1)) {
                return Due.BEYOND;
            }
            int was = world.open[(int) a[0]] ? 1 : 0;
            world.open[(int) a[0]] = a[1] == 1;
            return was;
        }
        if (!in(a[0], 0, 7) || !in(a[1], 0, name.equals("room") ? 3 : 5)) {
            return Due.BEYOND;
        }
        int[] room = world.rooms[(int) a[0]];
        int what = (int) a[1];
        if (name.equals("room")) {
            if (!in(a[2], 0, new int[] {9999, 9999, 99, 9}[what])) {
                return Due.BEYOND;
            }
            int was = room[what];
            room[what] = (int) a[2];
            return was;
        }
        if (what < 4) {
            return room[what];
        }
        int told = 0;
        for (int i = 0; i < world.people.size(); i++) {
            Person p = world.people.get(i);
            if (p.room == a[0]) {
                told += what == 4 ? 1 << i : p.breathes(world);
            }
        }
        return told;
    }

    private long people(String name, long[] a) {
        if (name.equals("one")) {
            if (!in(a[0], 0, 5) || !in(a[1], 0, 7)) {
                return Due.BEYOND;
            }
            if (world.people.size() == 8) {
                return Due.FULL;
            }
            Person p = made((int) a[0]);
            p.room = (int) a[1];
            world.people.add(p);
            return world.people.size() - 1;
        }
        if (!someone(a[0])) {
            return Due.BEYOND;
        }
        int one = (int) a[0];
        Person p = world.people.get(one);
        switch (name) {
            case "goes":
                world.people.remove(one);
                return p.hours;
            case "of":
                return !in(a[1], 0, 5) ? Due.BEYOND : tellOf(p, (int) a[1]);
            case "set":
                if (!in(a[1], 1, 4)) {
                    return Due.BEYOND;
                }
                int what = (int) a[1];
                if (!in(a[2], what == 2 ? 1 : 0, new int[] {0, 7, 20, 999, 1}[what])) {
                    return Due.BEYOND;
                }
                int was = tellOf(p, what);
                setOf(p, what, (int) a[2]);
                return was;
            default:
                if (!in(a[1], 0, 5)) {
                    return Due.BEYOND;
                }
                int kind = (int) a[1];
                if (name.equals("turn")) {
                    world.people.set(one, as(p, kind));
                    return kindOf(p);
                }
                return KINDS[kind].isInstance(p) ? p.need : Due.KIND;
        }
    }

    private int tellOf(Person p, int what) {
        switch (what) {
            case 0: return kindOf(p);
            case 1: return p.room;
            case 2: return p.need;
            case 3: return p.hours;
            case 4: return p.stifled ? 1 : 0;
            default: return p.breathes(world);
        }
    }

    private static void setOf(Person p, int what, int v) {
        switch (what) {
            case 1: p.room = v; break;
            case 2: p.need = v; break;
            case 3: p.hours = v; break;
            default: p.stifled = v == 1; break;
        }
    }

    private long hours(String name, long[] a) {
        switch (name) {
            case "hours":
                if (!in(a[0], 1, 60)) {
                    return Due.BEYOND;
                }
                if (world.hour + a[0] > 9999) {
                    return Due.STATE;
                }
                world = world.on((int) a[0]);
                return world.air();
            case "now":
                return now(a[0]);
            case "on":
                return !in(a[0], 0, 7) || !in(a[1], 0, 60) || !in(a[2], 0, 1) ? Due.BEYOND
                        : world.on((int) a[1]).rooms[(int) a[0]][(int) a[2]];
            case "when":
                if (!someone(a[0])) {
                    return Due.BEYOND;
                }
                int when = world.when((int) a[0]);
                return when == 0 ? Due.STATE : when > 60 ? Due.NONE : when;
            case "first":
                int first = Due.NONE;
                int least = 61;
                for (int i = 0; i < world.people.size(); i++) {
                    int n = world.when(i);
                    if (n > 0 && n < least) {
                        least = n;
                        first = i;
                    }
                }
                return first;
            default:
                return world.wellFor();
        }
    }

    private long now(long what) {
        int told = 0;
        switch ((int) what) {
            case 0: return world.hour;
            case 1: return world.air();
            case 2: return world.all(r -> r[1]);
            case 3: return world.all(r -> r[2]);
            case 4: case 5:
                for (int i = 0; i < world.people.size(); i++) {
                    Person p = world.people.get(i);
                    told += what == 5 ? p.breathes(world) : p.stifled ? 1 << i : 0;
                }
                return told;
            case 6:
                for (int d = 0; d < 7; d++) {
                    told += world.open[d] ? 1 << d : 0;
                }
                return told;
            default: return Due.BEYOND;
        }
    }

    private static void openDoors(World w, int set) {
        for (int d = 0; d < 7; d++) {
            w.open[d] = (set & 1 << d) != 0;
        }
    }

    private long doorsAndFires(String name, long[] a) {
        if (name.equals("doors")) {
            int best = -1;
            int longest = -1;
            for (int i = 0; i < 128; i++) {
                int set = i;
                int n = world.with(w -> openDoors(w, set)).wellFor();
                if (n > longest) {
                    longest = n;
                    best = set;
                }
            }
            return best;
        }
        int n = (int) a[a.length - 1];
        if (!in(n, 0, 40)) {
            return Due.BEYOND;
        }
        if (name.equals("shut")) {
            int[] stifled = new int[7];
            int fewest = 9;
            for (int i = 0; i < 7; i++) {
                int d = i;
                stifled[d] = world.with(w -> w.open[d] ^= true).on(n).stifled();
                fewest = Math.min(fewest, stifled[d]);
            }
            for (int d = 0; d < 7; d++) {
                if (stifled[d] == fewest && fewest < world.on(n).stifled()) {
                    return d;
                }
            }
            return Due.NONE;
        }
        if (!in(a[0], 0, 7) || !in(a[1], 0, 7) && name.equals("fires") || name.equals("fires") && a[0] == a[1]) {
            return Due.BEYOND;
        }
        int least = 1000;
        int most = name.equals("fire") ? 99 : 20;
        for (int i = 0; i <= most; i++) {
            int f = i;
            for (int j = 0; j <= (name.equals("fire") ? 0 : 20); j++) {
                int g = j;
                World tried = world.with(w -> {
                    w.rooms[(int) a[0]][2] = f;
                    if (name.equals("fires")) {
                        w.rooms[(int) a[1]][2] = g;
                    }
                });
                if (f + g < least && tried.well(n)) {
                    least = f + g;
                }
            }
        }
        return least == 1000 ? Due.NONE : least;
    }

    private long sleepers(String name, long[] a) {
        if (name.equals("share")) {
            return share(a[0], a[1]);
        }
        if (!someone(a[0]) || a.length > 1 && !in(a[1], 0, 40)) {
            return Due.BEYOND;
        }
        int one = (int) a[0];
        int best = 0;
        switch (name) {
            case "sleep":
                if (world.people.get(one).stifled) {
                    return Due.STATE;
                }
                int longest = 0;
                for (int i = 7; i >= 0; i--) {
                    int room = i;
                    int when = world.with(w -> w.people.get(one).room = room).when(one);
                    if (when >= longest) {
                        longest = when;
                        best = room;
                    }
                }
                return best;
            case "kind":
                int fewest = 9;
                for (int i = 5; i >= 0; i--) {
                    int kind = i;
                    int stifled = world.with(w -> w.people.set(one, as(w.people.get(one), kind)))
                            .on((int) a[1]).stifled();
                    if (stifled <= fewest) {
                        fewest = stifled;
                        best = kind;
                    }
                }
                return best;
            default:
                return world.with(w -> w.people.remove(one)).on((int) a[1]).air() - world.on((int) a[1]).air();
        }
    }

    private long share(long one, long k) {
        if (!in(k, 1, 6) || !in(one, 0, k - 1) || k > world.people.size()) {
            return Due.BEYOND;
        }
        long[] sumAndOrders = new long[2];
        inAllOrders((int) one, (int) k, 0, 0, sumAndOrders);
        if (sumAndOrders[0] * 720 % sumAndOrders[1] != 0) {
            throw new IllegalStateException("a rest is left");
        }
        return sumAndOrders[0] * 720 / sumAndOrders[1];
    }

    private void inAllOrders(int one, int k, int come, int fire, long[] sumAndOrders) {
        if (come == (1 << k) - 1) {
            sumAndOrders[1]++;
            return;
        }
        for (int i = 0; i < k; i++) {
            if ((come & 1 << i) == 0) {
                int then = Math.max(fire, world.people.get(i).breathes(world));
                if (i == one) {
                    int left = k - 1 - Integer.bitCount(come);
                    long orders = 1;
                    for (int f = 2; f <= left; f++) {
                        orders *= f;
                    }
                    sumAndOrders[0] += (then - fire) * orders;
                }
                inAllOrders(one, k, come | 1 << i, then, sumAndOrders);
            }
        }
    }

    private long dawn(String name, long[] a) {
        if (name.equals("owed")) {
            int best = 7;
            for (int r = 6; r >= 0; r--) {
                best = world.rooms[r][1] >= world.rooms[best][1] ? r : best;
            }
            return best;
        }
        if (name.equals("leaked")) {
            if (!in(a[0], 0, 7) || !in(a[1], 0, 40) || !in(a[2], 0, 9999)) {
                return Due.BEYOND;
            }
            int found = 0;
            for (int i = 0; i < 10; i++) {
                int t = i;
                int air = world.with(w -> w.rooms[(int) a[0]][3] = t).on((int) a[1]).rooms[(int) a[0]][0];
                found += air == a[2] ? 1 : 0;
            }
            return found;
        }
        if (!in(a[0], 0, 99999)) {
            return Due.BEYOND;
        }
        List<Integer> sets = new ArrayList<>();
        sweep(7, 0, a[0], sets);
        return name.equals("swept") ? sets.size() : sets.isEmpty() ? Due.NONE : sets.get(0);
    }

    /** From the highest ROOM down, without it first: sets come from the least on. */
    private void sweep(int room, int set, long left, List<Integer> sets) {
        if (room < 0) {
            if (left == 0) {
                sets.add(set);
            }
            return;
        }
        sweep(room - 1, set, left, sets);
        sweep(room - 1, set | 1 << room, left - world.rooms[room][1], sets);
    }

    private long tapes(String name, long[] a) {
        int had = tape.length();
        if (name.equals("feed")) {
            if (!in(a[1], 1, 4)) {
                return Due.BEYOND;
            }
            if (had + a[1] > 120) {
                return Due.FULL;
            }
            for (int i = (int) a[1] - 1; i >= 0; i--) {
                tape.append((char) (a[0] >>> 8 * i & 255));
            }
            return tape.length();
        }
        String text = tape.toString();
        tape.setLength(0);
        if (name.equals("wipe")) {
            return had;
        }
        World then = world.twin();
        try {
            int items = tell(then, text);
            world = then;
            return items;
        } catch (Fault fault) {
            return -1 - fault.place;
        }
    }

    /** TOKENS as texts, with their places; a byte that begins none is a text of its own. */
    private static void tokens(String text, List<String> tokens, List<Integer> places) {
        java.util.regex.Matcher m = java.util.regex.Pattern
                .compile("[a-z]+|[0-9]+|[^ ]", java.util.regex.Pattern.DOTALL).matcher(text);
        while (m.find()) {
            tokens.add(m.group());
            places.add(m.start());
        }
        tokens.add("");
        places.add(text.length());
    }

    private static int tell(World w, String text) throws Fault {
        List<String> tokens = new ArrayList<>();
        List<Integer> places = new ArrayList<>();
        tokens(text, tokens, places);
        int at = 0;
        int items = 0;
        while (true) {
            String word = tokens.get(at);
            int kind = List.of(NAMES).indexOf(word);
            if (kind >= 0 && w.people.size() == 8) {
                throw new Fault(places.get(at));
            }
            if (kind >= 0) {
                Person p = made(kind);
                if (!tokens.get(at + 1).equals("in")) {
                    throw new Fault(places.get(at + 1));
                }
                p.room = number(tokens, places, at + 2, 0, 7);
                at += 3;
                if (tokens.get(at).equals("need")) {
                    p.need = number(tokens, places, at + 1, 1, 20);
                    at += 2;
                }
                w.people.add(p);
            } else if (word.equals("room")) {
                int room = number(tokens, places, at + 1, 0, 7);
                at += 2;
                String[] parts = {"air", "frost", "fire", "tight"};
                int[] most = {9999, 9999, 99, 9};
                for (int i = 0; i < 4; i++) {
                    if (tokens.get(at).equals(parts[i])) {
                        w.rooms[room][i] = number(tokens, places, at + 1, 0, most[i]);
                        at += 2;
                    }
                }
            } else if (word.equals("open") || word.equals("shut")) {
                w.open[number(tokens, places, at + 1, 0, 6)] = word.equals("open");
                at += 2;
            } else if (word.equals("cold") || word.equals("mild")) {
                w.cold = word.equals("cold");
                at++;
            } else {
                throw new Fault(places.get(at));
            }
            items++;
            if (tokens.get(at).isEmpty()) {
                return items;
            }
            if (!tokens.get(at).equals(";")) {
                throw new Fault(places.get(at));
            }
            at++;
        }
    }

    private static int number(List<String> tokens, List<Integer> places, int at, int least, int most)
            throws Fault {
        String token = tokens.get(at);
        if (!token.matches("[0-9]+") || new BigInteger(token).compareTo(BigInteger.valueOf(most)) > 0
                || new BigInteger(token).compareTo(BigInteger.valueOf(least)) < 0) {
            throw new Fault(places.get(at));
        }
        return Integer.parseInt(new BigInteger(token).toString());
    }

    private static long cut(long v, int bits) {
        long unit = 64 - bits;
        return v << unit >> unit;
    }

    private long sheets(String name, long[] a) {
        sheetNumberAnswered = false;
        if (!in(a[0], 0, 3) || name.equals("copy") && !in(a[2], 0, 3)) {
            return Due.BEYOND;
        }
        int s = (int) a[0];
        if (name.equals("sheet")) {
            if (a[1] != 0 && a[1] != 8 && a[1] != 16 && a[1] != 64) {
                return Due.BEYOND;
            }
            if (a[2] < 0) {
                return Due.SIZE;
            }
            if (a[2] > 40) {
                return Due.BEYOND;
            }
            bits[s] = (int) a[1];
            sheets[s] = a[1] == 0 ? null : new long[(int) a[2]];
            return a[1] == 0 ? 0 : a[2];
        }
        if (sheets[s] == null || name.equals("copy") && sheets[(int) a[2]] == null) {
            return Due.MISSING;
        }
        switch (name) {
            case "write":
                if (!in(a[1], 0, sheets[s].length - 1)) {
                    return Due.BEYOND;
                }
                sheetNumberAnswered = true;
                long was = sheets[s][(int) a[1]];
                sheets[s][(int) a[1]] = cut(a[2], bits[s]);
                return was;
            case "copy":
                return copy(s, a[1], (int) a[2], a[3], a[4]);
            case "lays":
                int came = 0;
                for (int i = 0; i < sheets[s].length; i++) {
                    if (i < 8 && in(sheets[s][i], 0, 9999)) {
                        world.rooms[i][0] = (int) sheets[s][i];
                        came++;
                    }
                }
                return came;
            default:
                return !in(a[1], 0, 7) ? Due.BEYOND : bookOrRead(name, s, (int) a[1]);
        }
    }

    private long copy(int s, long from, int t, long to, long n) {
        if (bits[s] != bits[t]) {
            return Due.KIND;
        }
        if (from < 0 || to < 0 || n < 0 || from + n > sheets[s].length || to + n > sheets[t].length) {
            return Due.BEYOND;
        }
        long[] were = sheets[s].clone();
        for (int i = 0; i < n; i++) {
            sheets[t][(int) to + i] = were[(int) from + i];
        }
        return n;
    }

    private long bookOrRead(String name, int s, int room) {
        if (name.equals("book")) {
            for (int i = 0; i < sheets[s].length; i++) {
                sheets[s][i] = cut(world.on(i).rooms[room][0], bits[s]);
            }
            return sheets[s].length;
        }
        int found = 0;
        for (int i = 0; i < 1000; i++) {
            World w = world.twin();
            w.rooms[room][3] = i / 100;
            w.rooms[room][2] = i % 100;
            boolean so = true;
            for (int h = 0; h < sheets[s].length && so; h++) {
                so = w.rooms[room][0] == sheets[s][h];
                w.anHour();
            }
            found += so ? 1 : 0;
        }
        return found;
    }

    private long images(String name, long[] a) {
        switch (name) {
            case "image":
                kept = world.twin();
                return 1;
            case "undo":
                if (kept == null) {
                    return Due.NONE;
                }
                world = kept.twin();
                return world.people.size();
            case "tear":
                int was = kept == null ? 0 : 1;
                kept = null;
                return was;
            case "count":
                switch ((int) a[0]) {
                    case 0: return world.people.size();
                    case 1: return tape.length();
                    case 2: return world.people.stream().mapToInt(p -> p.need).sum();
                    case 3: return world.all(r -> r[3]);
                    default: return Due.BEYOND;
                }
            default:
                int all = 0;
                for (int found : answered) {
                    all += found;
                }
                return a[0] == -1 ? all : in(a[0], 0, 6) ? answered[(int) a[0]] : Due.BEYOND;
        }
    }
}
