/**
 * The night on which the air falls down as frost: rooms in a row, doors, fires, people who breathe,
 * and what can be asked of the hours ahead. ../shared/DOC.md tells what every call promises.
 */
public final class NinthAir {
    private static final int BEYOND = -1000000001;
    private static final int FULL = -1000000002;
    private static final int KIND = -1000000003;
    private static final int NONE = -1000000004;
    private static final int STATE = -1000000005;
    private static final int MISSING = -1000000006;
    private static final int SIZE = -1000000007;
    private static final int FINDINGS = 7;

    private static final int ROOMS = 8;
    private static final int DOORS = 7;
    private static final int DOOR_SETS = 1 << DOORS;
    private static final int ROOM_SETS = 1 << ROOMS;
    private static final int MOST_PEOPLE = 8;
    /** The set of all there can be. */
    private static final int EVERYBODY = (1 << MOST_PEOPLE) - 1;
    private static final int MOST_AIR = 9999;
    private static final int MOST_FIRE = 99;
    private static final int MOST_TIGHT = 9;
    private static final int MOST_NEED = 20;
    private static final int MOST_HOURS = 999;
    private static final int LAST_HOUR = 9999;
    private static final int FIRST_NEED = 3;

    /** How far ahead is looked, and how far where the document says "n 0 to 40 HOURS". */
    private static final int FAR = 60;
    private static final int NEAR = 40;
    private static final int MOST_FIRE_OF_TWO = 20;
    private static final int MOST_SWEPT = 99999;
    private static final int MOST_GUESTS = 6;

    private static final int PERSON = 0;
    private static final int DANCER = 1;
    private static final int SLEEPER = 2;
    private static final int HOLDER = 3;
    private static final int CHOIR = 4;
    private static final int DREAMER = 5;
    private static final int KINDS = 6;
    /** The KIND that each KIND is under; PERSON is under none. */
    private static final int[] UNDER = {-1, PERSON, PERSON, PERSON, DANCER, SLEEPER};

    private static final int AIR = 0;
    private static final int FROST = 1;
    private static final int FIRE = 2;
    private static final int TIGHT = 3;
    private static final int PEOPLE_THERE = 4;
    /** What is asked for with the highest what, of a ROOM and of one alike. */
    private static final int BREATH = 5;
    /** By what of room(): AIR, FROST, FIRE, TIGHT. */
    private static final int[] MOST_OF_ROOM = {MOST_AIR, MOST_AIR, MOST_FIRE, MOST_TIGHT};

    private static final int WHICH_KIND = 0;
    private static final int WHICH_ROOM = 1;
    private static final int NEED = 2;
    private static final int HOURS = 3;
    private static final int STIFLED = 4;
    /** By what of of(): KIND, ROOM, NEED, HOURS, STIFLED. */
    private static final int[] LEAST_OF_ONE = {0, 0, 1, 0, 0};
    private static final int[] MOST_OF_ONE = {KINDS - 1, ROOMS - 1, MOST_NEED, MOST_HOURS, 1};

    private static final int SHEETS = 4;
    private static final int MOST_NUMBERS = 40;
    private static final int MOST_BYTES = 120;
    private static final int BYTES_OF_NUMBER = 4;

    /** In how many orders 0, 1, 2, .. guests can come. */
    private static final int[] ORDERS = {1, 1, 2, 6, 24, 120, 720};

    private final Night night = new Night();
    private final Night kept = new Night();
    /** Where ON is tried out; made once, since what a run makes is counted. */
    private final Night ahead = new Night();
    private boolean imageKept;
    private final Tape tape = new Tape();
    private final Sheet[] sheets = new Sheet[SHEETS];
    private final int[] answered = new int[FINDINGS];

    public NinthAir() {
        for (int s = 0; s < SHEETS; s++) {
            sheets[s] = new Sheet();
        }
    }

    // ---- rooms

    public int room(int room, int what, int v) {
        if (noRoom(room) || outside(what, AIR, TIGHT) || outside(v, 0, MOST_OF_ROOM[what])) {
            return finding(BEYOND);
        }
        return exchange(night.rowOfRooms(what), room, v);
    }

    public int roomOf(int room, int what) {
        if (noRoom(room) || outside(what, AIR, BREATH)) {
            return finding(BEYOND);
        }
        if (what == PEOPLE_THERE) {
            return night.peopleIn(room);
        }
        if (what == BREATH) {
            return night.breathIn(night.peopleIn(room));
        }
        return night.rowOfRooms(what)[room];
    }

    public int door(int door, int v) {
        if (outside(door, 0, DOORS - 1) || outside(v, 0, 1)) {
            return finding(BEYOND);
        }
        return night.turnDoor(door, v);
    }

    public int cold(int v) {
        if (outside(v, 0, 1)) {
            return finding(BEYOND);
        }
        int was = night.cold;
        night.cold = v;
        return was;
    }

    // ---- people

    public int one(int kind, int room) {
        if (noKind(kind) || noRoom(room)) {
            return finding(BEYOND);
        }
        if (night.isFull()) {
            return finding(FULL);
        }
        return night.add(kind, room, FIRST_NEED);
    }

    public int of(int one, int what) {
        if (nobody(one) || outside(what, WHICH_KIND, BREATH)) {
            return finding(BEYOND);
        }
        if (what == BREATH) {
            return night.breathOf(one);
        }
        return night.rowOfPeople(what)[one];
    }

    public int set(int one, int what, int v) {
        if (nobody(one) || outside(what, WHICH_ROOM, STIFLED)
                || outside(v, LEAST_OF_ONE[what], MOST_OF_ONE[what])) {
            return finding(BEYOND);
        }
        return exchange(night.rowOfPeople(what), one, v);
    }

    public int turn(int one, int kind) {
        if (nobody(one) || noKind(kind)) {
            return finding(BEYOND);
        }
        return exchange(night.kinds, one, kind);
    }

    public int as(int one, int kind) {
        if (nobody(one) || noKind(kind)) {
            return finding(BEYOND);
        }
        if (!isKindOf(night.kinds[one], kind)) {
            return finding(KIND);
        }
        return night.needs[one];
    }

    public int goes(int one) {
        if (nobody(one)) {
            return finding(BEYOND);
        }
        int stayed = night.stays[one];
        night.remove(one);
        return stayed;
    }

    // ---- hours

    public int hours(int n) {
        if (outside(n, 1, FAR)) {
            return finding(BEYOND);
        }
        if (night.hour + n > LAST_HOUR) {
            return finding(STATE);
        }
        night.passHours(n);
        return sum(night.airs, ROOMS);
    }

    public int now(int what) {
        switch (what) {
            case 0: return night.hour;
            case 1: return sum(night.airs, ROOMS);
            case 2: return sum(night.frosts, ROOMS);
            case 3: return sum(night.fires, ROOMS);
            case 4: return night.stifledSet();
            case 5: return night.breathIn(EVERYBODY);
            case 6: return night.openDoors;
            default: return finding(BEYOND);
        }
    }

    public int on(int room, int n, int what) {
        if (noRoom(room) || outside(n, 0, FAR) || outside(what, AIR, FROST)) {
            return finding(BEYOND);
        }
        Night then = startAhead();
        then.passHours(n);
        return then.rowOfRooms(what)[room];
    }

    public int when(int one) {
        if (nobody(one)) {
            return finding(BEYOND);
        }
        if (night.stifled[one] == 1) {
            return finding(STATE);
        }
        int well = startAhead().wellHours(1 << one, FAR);
        return well == FAR ? finding(NONE) : well + 1;
    }

    public int first() {
        Night then = startAhead();
        for (int h = 0; h < FAR; h++) {
            int newly = then.passHour();
            if (newly != 0) {
                return Integer.numberOfTrailingZeros(newly);
            }
        }
        return finding(NONE);
    }

    public int well() {
        return startAhead().wellHours(EVERYBODY, FAR);
    }

    // ---- doors, fires, sleep (n 0 to 40 HOURS)

    public int doors() {
        int best = 0;
        int longest = -1;
        for (int set = 0; set < DOOR_SETS; set++) {
            Night then = startAhead();
            then.openDoors = set;
            int well = then.wellHours(EVERYBODY, FAR);
            if (well > longest) {
                longest = well;
                best = set;
            }
        }
        return best;
    }

    public int shut(int n) {
        if (outside(n, 0, NEAR)) {
            return finding(BEYOND);
        }
        int fewest = startAhead().stifledAfter(n);
        int best = -1;
        for (int door = 0; door < DOORS; door++) {
            Night then = startAhead();
            then.openDoors ^= 1 << door;
            int stifled = then.stifledAfter(n);
            if (stifled < fewest) {
                fewest = stifled;
                best = door;
            }
        }
        return best < 0 ? finding(NONE) : best;
    }

    public int fire(int room, int n) {
        if (noRoom(room) || outside(n, 0, NEAR)) {
            return finding(BEYOND);
        }
        for (int fire = 0; fire <= MOST_FIRE; fire++) {
            Night then = startAhead();
            then.fires[room] = fire;
            if (then.wellHours(EVERYBODY, n) == n) {
                return fire;
            }
        }
        return finding(NONE);
    }

    public int fires(int a, int b, int n) {
        if (noRoom(a) || noRoom(b) || a == b || outside(n, 0, NEAR)) {
            return finding(BEYOND);
        }
        for (int both = 0; both <= 2 * MOST_FIRE_OF_TWO; both++) {
            if (twoFiresDo(a, b, both, n)) {
                return both;
            }
        }
        return finding(NONE);
    }

    public int sleep(int one) {
        if (nobody(one)) {
            return finding(BEYOND);
        }
        if (night.stifled[one] == 1) {
            return finding(STATE);
        }
        int best = 0;
        int longest = -1;
        for (int room = 0; room < ROOMS; room++) {
            Night then = startAhead();
            then.places[one] = room;
            int well = then.wellHours(1 << one, FAR);
            if (well > longest) {
                longest = well;
                best = room;
            }
        }
        return best;
    }

    public int kind(int one, int n) {
        if (nobody(one) || outside(n, 0, NEAR)) {
            return finding(BEYOND);
        }
        int best = 0;
        int fewest = MOST_PEOPLE + 1;
        for (int kind = 0; kind < KINDS; kind++) {
            Night then = startAhead();
            then.kinds[one] = kind;
            int stifled = then.stifledAfter(n);
            if (stifled < fewest) {
                fewest = stifled;
                best = kind;
            }
        }
        return best;
    }

    public int costs(int one, int n) {
        if (nobody(one) || outside(n, 0, NEAR)) {
            return finding(BEYOND);
        }
        startAhead().passHours(n);
        int with = sum(ahead.airs, ROOMS);
        startAhead().remove(one);
        ahead.passHours(n);
        return sum(ahead.airs, ROOMS) - with;
    }

    public long share(int one, int k) {
        if (outside(k, 1, MOST_GUESTS) || outside(one, 0, k - 1) || k > night.people) {
            return finding(BEYOND);
        }
        int own = night.breathOf(one);
        long greater = 0;
        // Orders in which the same guests come ahead of one are alike to it: they are counted together.
        for (int early = 0; early < 1 << k; early++) {
            if (!has(early, one)) {
                int by = Math.max(0, own - night.greatestBreathIn(early));
                int guests = Integer.bitCount(early);
                greater += (long) by * ORDERS[guests] * ORDERS[k - 1 - guests];
            }
        }
        return greater * (ORDERS[MOST_GUESTS] / ORDERS[k]);
    }

    // ---- dawn

    public int swept(int v) {
        if (outside(v, 0, MOST_SWEPT)) {
            return finding(BEYOND);
        }
        int found = 0;
        for (int set = 0; set < ROOM_SETS; set++) {
            if (night.frostIn(set) == v) {
                found++;
            }
        }
        return found;
    }

    public int sweeps(int v) {
        if (outside(v, 0, MOST_SWEPT)) {
            return finding(BEYOND);
        }
        for (int set = 0; set < ROOM_SETS; set++) {
            if (night.frostIn(set) == v) {
                return set;
            }
        }
        return finding(NONE);
    }

    public int owed() {
        int best = 0;
        for (int room = 1; room < ROOMS; room++) {
            if (night.frosts[room] > night.frosts[best]) {
                best = room;
            }
        }
        return best;
    }

    public int leaked(int room, int n, int v) {
        if (noRoom(room) || outside(n, 0, NEAR) || outside(v, 0, MOST_AIR)) {
            return finding(BEYOND);
        }
        int found = 0;
        for (int tight = 0; tight <= MOST_TIGHT; tight++) {
            Night then = startAhead();
            then.tights[room] = tight;
            then.passHours(n);
            if (then.airs[room] == v) {
                found++;
            }
        }
        return found;
    }

    // ---- the text

    public int feed(int bytes, int n) {
        if (outside(n, 1, BYTES_OF_NUMBER)) {
            return finding(BEYOND);
        }
        if (tape.length + n > MOST_BYTES) {
            return finding(FULL);
        }
        tape.append(bytes, n);
        return tape.length;
    }

    public int wipe() {
        int had = tape.length;
        tape.length = 0;
        return had;
    }

    public int text() {
        // A text with a FAULT changes nothing, so it is told of a night that may be thrown away.
        int items = tape.tell(startAhead());
        if (items >= 0) {
            night.become(ahead);
        }
        tape.length = 0;
        return items;
    }

    // ---- sheets

    public int sheet(int s, int bits, int n) {
        if (noSheet(s) || (bits != 0 && bits != 8 && bits != 16 && bits != 64)) {
            return finding(BEYOND);
        }
        if (n < 0) {
            return finding(SIZE);
        }
        if (n > MOST_NUMBERS) {
            return finding(BEYOND);
        }
        sheets[s].start(bits, n);
        return sheets[s].length;
    }

    public long write(int s, int i, long v) {
        if (noSheet(s)) {
            return finding(BEYOND);
        }
        Sheet sheet = sheets[s];
        if (sheet.isMissing()) {
            return finding(MISSING);
        }
        if (outside(i, 0, sheet.length - 1)) {
            return finding(BEYOND);
        }
        long was = sheet.numbers[i];
        sheet.put(i, v);
        return was;
    }

    public int copy(int s, int from, int t, int to, int n) {
        if (noSheet(s) || noSheet(t)) {
            return finding(BEYOND);
        }
        Sheet source = sheets[s];
        Sheet target = sheets[t];
        if (source.isMissing() || target.isMissing()) {
            return finding(MISSING);
        }
        if (source.bits != target.bits) {
            return finding(KIND);
        }
        if (!source.hasStretch(from, n) || !target.hasStretch(to, n)) {
            return finding(BEYOND);
        }
        System.arraycopy(source.numbers, from, target.numbers, to, n);
        return n;
    }

    public int lays(int s) {
        if (noSheet(s)) {
            return finding(BEYOND);
        }
        Sheet sheet = sheets[s];
        if (sheet.isMissing()) {
            return finding(MISSING);
        }
        int came = 0;
        for (int room = 0; room < ROOMS && room < sheet.length; room++) {
            long air = sheet.numbers[room];
            if (air >= 0 && air <= MOST_AIR) {
                night.airs[room] = (int) air;
                came++;
            }
        }
        return came;
    }

    public int book(int s, int room) {
        if (noSheet(s)) {
            return finding(BEYOND);
        }
        Sheet sheet = sheets[s];
        if (sheet.isMissing()) {
            return finding(MISSING);
        }
        if (noRoom(room)) {
            return finding(BEYOND);
        }
        Night then = startAhead();
        for (int i = 0; i < sheet.length; i++) {
            sheet.put(i, then.airs[room]);
            then.passHour();
        }
        return sheet.length;
    }

    public int read(int s, int room) {
        if (noSheet(s)) {
            return finding(BEYOND);
        }
        Sheet sheet = sheets[s];
        if (sheet.isMissing()) {
            return finding(MISSING);
        }
        if (noRoom(room)) {
            return finding(BEYOND);
        }
        int found = 0;
        for (int tight = 0; tight <= MOST_TIGHT; tight++) {
            for (int fire = 0; fire <= MOST_FIRE; fire++) {
                Night then = startAhead();
                then.tights[room] = tight;
                then.fires[room] = fire;
                if (then.goesAsTold(room, sheet)) {
                    found++;
                }
            }
        }
        return found;
    }

    // ---- images

    public int image() {
        kept.become(night);
        imageKept = true;
        return 1;
    }

    public int undo() {
        if (!imageKept) {
            return finding(NONE);
        }
        night.become(kept);
        return night.people;
    }

    public int tear() {
        int was = imageKept ? 1 : 0;
        imageKept = false;
        return was;
    }

    public int count(int what) {
        switch (what) {
            case 0: return night.people;
            case 1: return tape.length;
            case 2: return sum(night.needs, night.people);
            case 3: return sum(night.tights, ROOMS);
            default: return finding(BEYOND);
        }
    }

    public int status(int which) {
        if (outside(which, -1, FINDINGS - 1)) {
            return finding(BEYOND);
        }
        return which == -1 ? sum(answered, FINDINGS) : answered[which];
    }

    // ---- what the calls share

    private int finding(int code) {
        int which = BEYOND - code;
        if (!outside(which, 0, FINDINGS - 1)) {
            answered[which]++;
        }
        return code;
    }

    private boolean nobody(int one) {
        return outside(one, 0, night.people - 1);
    }

    private Night startAhead() {
        ahead.become(night);
        return ahead;
    }

    private boolean twoFiresDo(int a, int b, int both, int n) {
        int last = Math.min(both, MOST_FIRE_OF_TWO);
        for (int one = both - last; one <= last; one++) {
            Night then = startAhead();
            then.fires[a] = one;
            then.fires[b] = both - one;
            if (then.wellHours(EVERYBODY, n) == n) {
                return true;
            }
        }
        return false;
    }

    private static boolean outside(int v, int least, int most) {
        return v < least || v > most;
    }

    private static boolean noRoom(int room) {
        return outside(room, 0, ROOMS - 1);
    }

    private static boolean noKind(int kind) {
        return outside(kind, 0, KINDS - 1);
    }

    private static boolean noSheet(int s) {
        return outside(s, 0, SHEETS - 1);
    }

    private static boolean isKindOf(int kind, int wanted) {
        int at = kind;
        for (int step = 0; step < KINDS && !noKind(at); step++) {
            if (at == wanted) {
                return true;
            }
            at = UNDER[at];
        }
        return false;
    }

    private static boolean has(int set, int member) {
        return (set >> member & 1) == 1;
    }

    private static int exchange(int[] row, int i, int v) {
        int was = row[i];
        row[i] = v;
        return was;
    }

    private static int sum(int[] row, int n) {
        int sum = 0;
        for (int i = 0; i < n && i < row.length; i++) {
            sum += row[i];
        }
        return sum;
    }

    /** All that section 1 of the document tells but THE TAPE: ROOMS, DOORS, COLD, HOUR and PEOPLE. */
    private static final class Night {
        final int[] airs = new int[ROOMS];
        final int[] frosts = new int[ROOMS];
        final int[] fires = new int[ROOMS];
        final int[] tights = new int[ROOMS];
        int openDoors;
        int cold;
        int hour;
        int people;
        final int[] kinds = new int[MOST_PEOPLE];
        final int[] places = new int[MOST_PEOPLE];
        final int[] needs = new int[MOST_PEOPLE];
        final int[] stays = new int[MOST_PEOPLE];
        final int[] stifled = new int[MOST_PEOPLE];

        Night() {
            for (int room = 0; room < ROOMS; room++) {
                airs[room] = 100;
                tights[room] = 5;
            }
        }

        void become(Night other) {
            for (int what = AIR; what <= TIGHT; what++) {
                System.arraycopy(other.rowOfRooms(what), 0, rowOfRooms(what), 0, ROOMS);
            }
            openDoors = other.openDoors;
            cold = other.cold;
            hour = other.hour;
            people = other.people;
            for (int what = WHICH_KIND; what <= STIFLED; what++) {
                System.arraycopy(other.rowOfPeople(what), 0, rowOfPeople(what), 0, people);
            }
        }

        int[] rowOfRooms(int what) {
            switch (what) {
                case AIR: return airs;
                case FROST: return frosts;
                case FIRE: return fires;
                default: return tights;
            }
        }

        int[] rowOfPeople(int what) {
            switch (what) {
                case WHICH_KIND: return kinds;
                case WHICH_ROOM: return places;
                case NEED: return needs;
                case HOURS: return stays;
                default: return stifled;
            }
        }

        int turnDoor(int door, int v) {
            int was = openDoors >> door & 1;
            openDoors ^= (was ^ v) << door;
            return was;
        }

        boolean isFull() {
            return people >= MOST_PEOPLE;
        }

        int add(int kind, int room, int need) {
            int one = people;
            kinds[one] = kind;
            places[one] = room;
            needs[one] = need;
            stays[one] = 0;
            stifled[one] = 0;
            people++;
            return one;
        }

        void remove(int one) {
            int behind = people - one - 1;
            for (int what = WHICH_KIND; what <= STIFLED; what++) {
                int[] row = rowOfPeople(what);
                System.arraycopy(row, one + 1, row, one, behind);
            }
            people--;
        }

        int peopleIn(int room) {
            int set = 0;
            for (int one = 0; one < people; one++) {
                if (places[one] == room) {
                    set |= 1 << one;
                }
            }
            return set;
        }

        int stifledSet() {
            int set = 0;
            for (int one = 0; one < people; one++) {
                set |= stifled[one] << one;
            }
            return set;
        }

        int breathIn(int set) {
            int breath = 0;
            for (int one = 0; one < people; one++) {
                if (has(set, one)) {
                    breath += breathOf(one);
                }
            }
            return breath;
        }

        int greatestBreathIn(int set) {
            int greatest = 0;
            for (int one = 0; one < people; one++) {
                if (has(set, one)) {
                    greatest = Math.max(greatest, breathOf(one));
                }
            }
            return greatest;
        }

        int frostIn(int set) {
            int frost = 0;
            for (int room = 0; room < ROOMS; room++) {
                if (has(set, room)) {
                    frost += frosts[room];
                }
            }
            return frost;
        }

        int breathOf(int one) {
            if (stifled[one] == 1) {
                return 0;
            }
            int need = needs[one];
            switch (kinds[one]) {
                case DANCER: return 2 * need;
                case SLEEPER: return need / 2 + 1;
                case HOLDER: return stays[one] < need ? 0 : need;
                case CHOIR: return 2 * need + otherVoices(one);
                case DREAMER: return need / 2 + 2;
                default: return need;
            }
        }

        private int otherVoices(int one) {
            int voices = 0;
            for (int other = 0; other < people; other++) {
                if (other != one && kinds[other] == CHOIR && places[other] == places[one]
                        && stifled[other] == 0) {
                    voices++;
                }
            }
            return voices;
        }

        void passHours(int n) {
            for (int h = 0; h < n; h++) {
                passHour();
            }
        }

        /** One HOUR goes: the set of those who became STIFLED in it. */
        int passHour() {
            if (cold == 1) {
                freeze();
            }
            burn();
            mix();
            hour++;
            return breathe();
        }

        private void freeze() {
            for (int room = 0; room < ROOMS; room++) {
                int falls = airs[room] * (9 - tights[room]) / 20;
                airs[room] -= falls;
                frosts[room] = Math.min(MOST_AIR, frosts[room] + falls);
            }
        }

        private void burn() {
            for (int room = 0; room < ROOMS; room++) {
                int rises = Math.min(fires[room], frosts[room]);
                frosts[room] -= rises;
                airs[room] = Math.min(MOST_AIR, airs[room] + rises);
            }
        }

        private void mix() {
            for (int door = 0; door < DOORS; door++) {
                if (has(openDoors, door)) {
                    // Java cuts towards 0, so one quotient serves both ways through the DOOR.
                    int flows = (airs[door] - airs[door + 1]) / 4;
                    airs[door] -= flows;
                    airs[door + 1] += flows;
                }
            }
        }

        private int breathe() {
            int newly = 0;
            for (int one = 0; one < people; one++) {
                int breath = breathOf(one);
                int room = places[one];
                if (airs[room] < breath) {
                    airs[room] = 0;
                    stifled[one] = 1;
                    newly |= 1 << one;
                } else {
                    airs[room] -= breath;
                }
                stays[one] = Math.min(MOST_HOURS, stays[one] + 1);
            }
            return newly;
        }

        /** Lets HOURS go, most at most, until one of the set becomes STIFLED: how many went ahead of that. */
        int wellHours(int set, int most) {
            for (int h = 0; h < most; h++) {
                if ((passHour() & set) != 0) {
                    return h;
                }
            }
            return most;
        }

        int stifledAfter(int n) {
            passHours(n);
            return Integer.bitCount(stifledSet());
        }

        boolean goesAsTold(int room, Sheet sheet) {
            for (int i = 0; i < sheet.length; i++) {
                if (airs[room] != sheet.numbers[i]) {
                    return false;
                }
                passHour();
            }
            return true;
        }
    }

    private static final class Sheet {
        final long[] numbers = new long[MOST_NUMBERS];
        int bits;
        int length;

        boolean isMissing() {
            return bits == 0;
        }

        void start(int bits, int n) {
            this.bits = bits;
            length = bits == 0 ? 0 : n;
            for (int i = 0; i < length; i++) {
                numbers[i] = 0;
            }
        }

        void put(int i, long v) {
            if (bits == 8) {
                numbers[i] = (byte) v;
            } else if (bits == 16) {
                numbers[i] = (short) v;
            } else {
                numbers[i] = v;
            }
        }

        boolean hasStretch(int from, int n) {
            return from >= 0 && n >= 0 && n <= length && from <= length - n;
        }
    }

    /** THE TAPE, and THE TEXT of a NIGHT as it is read from it, TOKEN by TOKEN. */
    private static final class Tape {
        private static final int WORD = 0;
        private static final int NUMBER = 1;
        private static final int SIGN = 2;
        private static final int END = 3;
        private static final int NO_TOKEN = 4;
        private static final int MOST_NUMBER = 9999;

        final int[] bytes = new int[MOST_BYTES];
        int length;
        /** The TOKEN that is looked at: what it is, the place of its first byte, the place behind it. */
        private int token;
        private int start;
        private int behind;
        /** What the NUMBER was that isNumber() looked at last. */
        private int number;

        void append(int value, int n) {
            for (int i = n - 1; i >= 0; i--) {
                bytes[length] = value >> 8 * i & 255;
                length++;
            }
        }

        /** Every ITEM comes to the night: how many; with a FAULT -1 less its place. */
        int tell(Night night) {
            behind = 0;
            step();
            // Each ITEM takes bytes, so there are fewer of them than those.
            for (int items = 1; items <= MOST_BYTES; items++) {
                if (!tellItem(night)) {
                    return -1 - start;
                }
                if (token == END) {
                    return items;
                }
                if (token != SIGN) {
                    return -1 - start;
                }
                step();
            }
            return -1 - start;
        }

        private boolean tellItem(Night night) {
            int kind = kindNamed();
            if (kind >= 0) {
                return tellOne(night, kind);
            }
            if (isWord("room")) {
                return tellRoom(night);
            }
            if (isWord("open")) {
                return tellDoor(night, 1);
            }
            if (isWord("shut")) {
                return tellDoor(night, 0);
            }
            if (isWord("cold")) {
                return tellCold(night, 1);
            }
            if (isWord("mild")) {
                return tellCold(night, 0);
            }
            return false;
        }

        private int kindNamed() {
            if (isWord("person")) {
                return PERSON;
            }
            if (isWord("dancer")) {
                return DANCER;
            }
            if (isWord("sleeper")) {
                return SLEEPER;
            }
            if (isWord("holder")) {
                return HOLDER;
            }
            if (isWord("choir")) {
                return CHOIR;
            }
            return isWord("dreamer") ? DREAMER : -1;
        }

        private boolean tellOne(Night night, int kind) {
            if (night.isFull()) {
                return false;
            }
            step();
            if (!isWord("in")) {
                return false;
            }
            step();
            if (!isNumber(0, ROOMS - 1)) {
                return false;
            }
            int room = number;
            int need = FIRST_NEED;
            step();
            if (isWord("need")) {
                step();
                if (!isNumber(1, MOST_NEED)) {
                    return false;
                }
                need = number;
                step();
            }
            night.add(kind, room, need);
            return true;
        }

        private boolean tellRoom(Night night) {
            step();
            if (!isNumber(0, ROOMS - 1)) {
                return false;
            }
            int room = number;
            step();
            return mayTell("air", night, AIR, room) && mayTell("frost", night, FROST, room)
                    && mayTell("fire", night, FIRE, room) && mayTell("tight", night, TIGHT, room);
        }

        /** True also where the word isn't told at all. */
        private boolean mayTell(String word, Night night, int what, int room) {
            if (!isWord(word)) {
                return true;
            }
            step();
            if (!isNumber(0, MOST_OF_ROOM[what])) {
                return false;
            }
            night.rowOfRooms(what)[room] = number;
            step();
            return true;
        }

        private boolean tellDoor(Night night, int v) {
            step();
            if (!isNumber(0, DOORS - 1)) {
                return false;
            }
            night.turnDoor(number, v);
            step();
            return true;
        }

        private boolean tellCold(Night night, int v) {
            night.cold = v;
            step();
            return true;
        }

        private boolean isWord(String word) {
            if (token != WORD || behind - start != word.length()) {
                return false;
            }
            for (int i = 0; i < word.length(); i++) {
                if (bytes[start + i] != word.charAt(i)) {
                    return false;
                }
            }
            return true;
        }

        private boolean isNumber(int least, int most) {
            if (token != NUMBER) {
                return false;
            }
            number = 0;
            for (int i = start; i < behind; i++) {
                // Held just above what any NUMBER may be, so that many digits don't wrap around.
                number = Math.min(MOST_NUMBER + 1, number * 10 + bytes[i] - '0');
            }
            return !outside(number, least, most);
        }

        /** Goes on to the next TOKEN; at the END its place is how many bytes there are. */
        private void step() {
            start = behind;
            while (start < length && bytes[start] == ' ') {
                start++;
            }
            behind = start;
            if (start >= length) {
                token = END;
                return;
            }
            token = tokenBegunBy(bytes[start]);
            behind++;
            if (token == WORD || token == NUMBER) {
                while (behind < length && tokenBegunBy(bytes[behind]) == token) {
                    behind++;
                }
            }
        }

        private static int tokenBegunBy(int sign) {
            if (sign >= 'a' && sign <= 'z') {
                return WORD;
            }
            if (sign >= '0' && sign <= '9') {
                return NUMBER;
            }
            return sign == ';' ? SIGN : NO_TOKEN;
        }
    }
}
