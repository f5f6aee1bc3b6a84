/** A house whose doors keep the last quarrel that was had through them. */
public final class DoorKeepsQuarrel {
    private static final int ROOMS = 7;
    private static final int MOST_DOORS = 9;
    private static final int MOST_PEOPLE = 6;
    private static final int MOST_LETTERS = 96;
    private static final int MOST_ROW = 16;
    private static final int MOST_SIGN = 255;
    private static final int MOST_HEAT = 99;
    private static final int MOST_MOOD = 99;
    private static final int MOST_NUMBER = 99;
    private static final int MOST_FIGURE = 9;
    private static final int LAST_HOUR = 999;
    private static final int MOST_HOURS = 60;
    private static final int MOST_DRAUGHTS = 7;
    private static final int LEAST_ODDS = 2;
    private static final int MOST_ODDS = 20;
    private static final int MOST_DAYS = 20;
    private static final int DRAWS_A_DAY = 12;
    private static final int ALL_BUT_SIGN = 0x7fffffff;

    private static final int DOOR = 0;
    private static final int OAK = 1;
    private static final int CURTAIN = 2;
    private static final int SLAMMED = 3;
    private static final int GLASS = 4;
    private static final int BAIZE = 5;
    private static final int KINDS = 6;

    private static final int NO_VOICE = 9;
    private static final int RELIEF = 5;
    private static final int CALMING = 3;
    private static final int JOY_OF_OPENING = 4;

    private static final int NONE = -9;
    private static final int NOBODY = -1;
    private static final int OTHER = -2;
    private static final int STATE = -3;
    private static final int BELOW = -4;
    private static final int ABOVE = -6;
    private static final int REFUSAL_KINDS = 6;
    private static final int ECHO_REFUSED = 1000000000;
    private static final long LONG_REFUSED = 4000000000000000000L;

    private final House now = new House();
    private final House thought = new House();
    private final House kept = new House();
    private boolean hasImage = false;
    private final Telling telling = new Telling();
    private final Ways ways = new Ways();
    private final int[] numbers = new int[MOST_ROW];
    private int rowSize = 0;
    private final int[] refusals = new int[REFUSAL_KINDS + 1];

    public DoorKeepsQuarrel() {
    }

    // ---- the house told in letters

    public int letter(int c) {
        if (c < 0) {
            return refuse(BELOW);
        }
        if (c > MOST_SIGN || telling.size >= MOST_LETTERS) {
            return refuse(ABOVE);
        }
        telling.add(c);
        return telling.size;
    }

    public int house() {
        int answer = telling.misspelling();
        if (answer >= 0) {
            // A statement at fault must leave nothing behind, so all of them are tried in thought.
            thought.copyFrom(now);
            answer = telling.carryOut(thought);
            if (answer >= 0) {
                now.copyFrom(thought);
            }
        }
        telling.size = 0;
        return answer;
    }

    // ---- doors and people as they are

    public int door(int door, int what) {
        if (!now.hasDoor(door)) {
            return refuse(NOBODY);
        }
        switch (what) {
            case 0: return now.kind[door];
            case 1: return now.figure[door];
            case 2: return now.oneRoom[door];
            case 3: return now.otherRoom[door];
            case 4: return now.heat[door];
            case 5: return now.voice[door];
            case 6: return now.given(door);
            default: return refuse(OTHER);
        }
    }

    public int person(int person, int what) {
        if (!now.hasPerson(person)) {
            return refuse(NOBODY);
        }
        switch (what) {
            case 0: return now.temper[person];
            case 1: return now.place[person];
            case 2: return now.mood[person];
            case 3: return now.said(person);
            default: return refuse(OTHER);
        }
    }

    // ---- what happens in the house

    public int opens(int person, int door) {
        if (!now.hasPerson(person) || !now.hasDoor(door)) {
            return refuse(NOBODY);
        }
        if (!now.canOpen(person, door)) {
            return refuse(STATE);
        }
        now.open(person, door);
        return now.mood[person];
    }

    public int quarrels(int door, int v, int person) {
        if (!now.hasDoor(door) || !now.hasPerson(person)) {
            return refuse(NOBODY);
        }
        int bad = outside(v, 0, MOST_HEAT);
        if (bad < 0) {
            return refuse(bad);
        }
        int was = now.heat[door];
        now.fill(door, v, person);
        return was;
    }

    public int airs(int door) {
        if (!now.hasDoor(door)) {
            return refuse(NOBODY);
        }
        int was = now.heat[door];
        now.fill(door, 0, NO_VOICE);
        return was;
    }

    public int moods(int person, int v) {
        if (!now.hasPerson(person)) {
            return refuse(NOBODY);
        }
        int bad = outside(v, 0, MOST_MOOD);
        if (bad < 0) {
            return refuse(bad);
        }
        int was = now.mood[person];
        now.mood[person] = v;
        return was;
    }

    public int stands(int person, int room) {
        if (!now.hasPerson(person) || !isRoom(room)) {
            return refuse(NOBODY);
        }
        int was = now.place[person];
        now.place[person] = room;
        return was;
    }

    public int turn(int door, int kind, int figure) {
        if (!now.hasDoor(door)) {
            return refuse(NOBODY);
        }
        if (kind < 0 || kind >= KINDS) {
            return refuse(OTHER);
        }
        int bad = outside(figure, 0, MOST_FIGURE);
        if (bad < 0) {
            return refuse(bad);
        }
        int was = 10 * now.kind[door] + now.figure[door];
        now.kind[door] = kind;
        now.figure[door] = figure;
        return was;
    }

    public int hours(int n) {
        int bad = outside(n, 1, MOST_HOURS);
        if (bad < 0) {
            return refuse(bad);
        }
        if (now.hour + n > LAST_HOUR) {
            return refuse(ABOVE);
        }
        now.pass(n);
        return now.allHeat();
    }

    // ---- in mind, hours on

    public int doorThen(int door, int n, int what) {
        if (!now.hasDoor(door)) {
            return refuse(NOBODY);
        }
        int bad = outside(n, 0, MOST_HOURS);
        if (bad < 0) {
            return refuse(bad);
        }
        int heat = now.heatAfter(door, n);
        switch (what) {
            case 0: return heat;
            case 1: return heat > 0 ? now.voice[door] : NO_VOICE;
            default: return refuse(OTHER);
        }
    }

    public int moodThen(int person, int n) {
        if (!now.hasPerson(person)) {
            return refuse(NOBODY);
        }
        int bad = outside(n, 0, MOST_HOURS);
        if (bad < 0) {
            return refuse(bad);
        }
        return now.moodAfter(person, n);
    }

    public int first(int what) {
        switch (what) {
            case 0: return cold();
            case 1: return hottest();
            case 2: return loudest();
            default: return refuse(OTHER);
        }
    }

    private int cold() {
        for (int n = 0; n <= MOST_HOURS; n++) {
            if (isColdAfter(n)) {
                return n;
            }
        }
        return NONE;
    }

    private boolean isColdAfter(int n) {
        for (int d = 0; d < now.doors; d++) {
            if (now.heatAfter(d, n) > 0) {
                return false;
            }
        }
        return true;
    }

    private int hottest() {
        int best = NONE;
        int most = -1;
        for (int d = 0; d < now.doors; d++) {
            if (now.given(d) > most) {
                most = now.given(d);
                best = d;
            }
        }
        return best;
    }

    private int loudest() {
        int best = NONE;
        int most = -1;
        for (int d = 0; d < now.doors; d++) {
            if (now.heat[d] > most) {
                most = now.heat[d];
                best = d;
            }
        }
        return best;
    }

    // ---- ways through the house

    public int way(int person, int room, int what) {
        if (!now.hasPerson(person) || !isRoom(room)) {
            return refuse(NOBODY);
        }
        findWaysTo(room, 0);
        int from = now.place[person];
        switch (what) {
            case 0: return ways.givenFrom(from);
            case 1: return ways.doorsFrom(from);
            case 2: return ways.doorFrom(now, from);
            default: return refuse(OTHER);
        }
    }

    public int fewest(int person, int room) {
        if (!now.hasPerson(person) || !isRoom(room)) {
            return refuse(NOBODY);
        }
        ways.tollNothing();
        ways.leadTo(now, room);
        return ways.doorsFrom(now.place[person]);
    }

    public int near(int person) {
        if (!now.hasPerson(person)) {
            return refuse(NOBODY);
        }
        ways.tollNothing();
        ways.leadTo(now, now.place[person]);
        int bits = 0;
        for (int r = 0; r < ROOMS; r++) {
            if (ways.givenFrom(r) != NONE) {
                bits |= 1 << r;
            }
        }
        return bits;
    }

    public int cutOff() {
        int bits = (1 << ROOMS) - 1;
        for (int d = 0; d < now.doors; d++) {
            bits &= ~(1 << now.oneRoom[d]);
            bits &= ~(1 << now.otherRoom[d]);
        }
        return bits;
    }

    public int goes(int person, int room) {
        if (!now.hasPerson(person) || !isRoom(room)) {
            return refuse(NOBODY);
        }
        findWaysTo(room, 0);
        int left = ways.doorsFrom(now.place[person]);
        if (left == NONE) {
            return NONE;
        }
        thought.copyFrom(now);
        for (int i = 0; i < left; i++) {
            int next = ways.doorFrom(thought, thought.place[person]);
            if (next >= 0) {
                thought.open(person, next);
            }
        }
        return thought.mood[person];
    }

    public int air(int person, int room) {
        if (!now.hasPerson(person) || !isRoom(room)) {
            return refuse(NOBODY);
        }
        int from = now.place[person];
        findWaysTo(room, 0);
        int least = ways.givenFrom(from);
        if (least == NONE) {
            return NONE;
        }
        int best = NONE;
        for (int d = 0; d < now.doors; d++) {
            ways.tollAfter(now, 0);
            ways.setToll(d, 0);
            ways.leadTo(now, room);
            if (ways.givenFrom(from) < least) {
                least = ways.givenFrom(from);
                best = d;
            }
        }
        return best;
    }

    public int shut(int person, int room) {
        if (!now.hasPerson(person) || !isRoom(room)) {
            return refuse(NOBODY);
        }
        int from = now.place[person];
        findWaysTo(room, 0);
        if (ways.givenFrom(from) == NONE) {
            return NONE;
        }
        for (int d = 0; d < now.doors; d++) {
            ways.tollNothing();
            ways.setToll(d, Ways.BARRED);
            ways.leadTo(now, room);
            if (ways.givenFrom(from) == NONE) {
                return d;
            }
        }
        return NONE;
    }

    public int pause(int person, int room, int v) {
        if (!now.hasPerson(person) || !isRoom(room)) {
            return refuse(NOBODY);
        }
        int bad = outside(v, 0, MOST_NUMBER);
        if (bad < 0) {
            return refuse(bad);
        }
        for (int n = 0; n <= MOST_HOURS; n++) {
            findWaysTo(room, n);
            int given = ways.givenFrom(now.place[person]);
            if (given == NONE) {
                return NONE;
            }
            if (given <= v) {
                return n;
            }
        }
        return NONE;
    }

    private void findWaysTo(int room, int n) {
        ways.tollAfter(now, n);
        ways.leadTo(now, room);
    }

    public int walk(int person, int what) {
        if (!now.hasPerson(person)) {
            return refuse(NOBODY);
        }
        if (what != 0 && what != 1) {
            return refuse(OTHER);
        }
        thought.copyFrom(now);
        int stop = NONE;
        for (int i = 0; i < rowSize && stop == NONE; i++) {
            if (thought.hasDoor(numbers[i]) && thought.canOpen(person, numbers[i])) {
                thought.open(person, numbers[i]);
            } else {
                stop = i;
            }
        }
        return what == 0 ? stop : thought.mood[person];
    }

    // ---- two at one door

    public int order(int a, int b, int door) {
        int bad = notTogether(a, b, door);
        if (bad < 0) {
            return refuse(bad);
        }
        openBoth(a, b, door);
        int aFirst = thought.mood[a] + thought.mood[b];
        openBoth(b, a, door);
        int bFirst = thought.mood[a] + thought.mood[b];
        if (aFirst == bFirst) {
            return Math.min(a, b);
        }
        return aFirst < bFirst ? a : b;
    }

    public int echo(int a, int b, int door) {
        int bad = notTogether(a, b, door);
        if (bad < 0) {
            return ECHO_REFUSED - refuse(bad);
        }
        openBoth(a, b, door);
        int behind = thought.mood[b];
        thought.copyFrom(now);
        thought.open(b, door);
        return behind - thought.mood[b];
    }

    private int notTogether(int a, int b, int door) {
        if (!now.hasPerson(a) || !now.hasPerson(b) || a == b || !now.hasDoor(door)) {
            return NOBODY;
        }
        if (now.place[a] != now.place[b] || !now.canOpen(a, door)) {
            return STATE;
        }
        return 0;
    }

    private void openBoth(int ahead, int behind, int door) {
        thought.copyFrom(now);
        thought.open(ahead, door);
        thought.open(behind, door);
    }

    public int two(int a, int b, int door) {
        int bad = notTogether(a, b, door);
        if (bad < 0) {
            return refuse(bad);
        }
        for (int x = 0; x <= 1; x++) {
            for (int y = 0; y <= 1; y++) {
                if (firstIsContent(a, door, x) && secondIsContent(a, b, door, x, y)) {
                    return 10 * x + y;
                }
            }
        }
        return NONE;
    }

    // What the second does comes behind the first and does not touch the first's mood.
    private boolean firstIsContent(int a, int door, int x) {
        return wishOfFirst(a, door, x) <= wishOfFirst(a, door, 1 - x);
    }

    private int wishOfFirst(int a, int door, int x) {
        thought.copyFrom(now);
        if (x == 1) {
            thought.open(a, door);
        }
        return thought.mood[a] - JOY_OF_OPENING * x;
    }

    private boolean secondIsContent(int a, int b, int door, int x, int y) {
        return wishOfSecond(a, b, door, x, y) <= wishOfSecond(a, b, door, x, 1 - y);
    }

    private int wishOfSecond(int a, int b, int door, int x, int y) {
        thought.copyFrom(now);
        if (x == 1) {
            thought.open(a, door);
        }
        if (y == 1) {
            thought.open(b, door);
        }
        return thought.mood[b] - JOY_OF_OPENING * y;
    }

    // ---- voices, moods, meeting

    public int voices(int person) {
        if (person == -1) {
            return now.doorsOfVoice(NO_VOICE);
        }
        if (!now.hasPerson(person)) {
            return refuse(NOBODY);
        }
        return now.doorsOfVoice(person);
    }

    public int heard(int what) {
        switch (what) {
            case 0: return mostHeard();
            case 1: return worst();
            default: return refuse(OTHER);
        }
    }

    private int mostHeard() {
        int best = NONE;
        int most = 0;
        for (int p = 0; p < now.people; p++) {
            int many = Integer.bitCount(now.doorsOfVoice(p));
            if (many > most) {
                most = many;
                best = p;
            }
        }
        return best;
    }

    private int worst() {
        int best = NONE;
        int most = -1;
        for (int p = 0; p < now.people; p++) {
            if (now.mood[p] > most) {
                most = now.mood[p];
                best = p;
            }
        }
        return best;
    }

    public int meet(int what) {
        if (what != 0 && what != 1) {
            return refuse(OTHER);
        }
        int best = NONE;
        int least = NONE;
        for (int r = 0; r < ROOMS; r++) {
            int together = givenToAll(r);
            if (together != NONE && (best == NONE || together < least)) {
                best = r;
                least = together;
            }
        }
        return what == 0 ? best : least;
    }

    private int givenToAll(int room) {
        findWaysTo(room, 0);
        int sum = 0;
        for (int p = 0; p < now.people; p++) {
            int given = ways.givenFrom(now.place[p]);
            if (given == NONE) {
                return NONE;
            }
            sum += given;
        }
        return sum;
    }

    // ---- fractions

    public long draught(int door, int n, int t, int v, int part) {
        if (!now.hasDoor(door)) {
            return refuseLong(NOBODY);
        }
        if (n < 0 || v < 0 || t < LEAST_ODDS) {
            return refuseLong(BELOW);
        }
        if (n > MOST_DRAUGHTS || t > MOST_ODDS || v > MOST_NUMBER) {
            return refuseLong(ABOVE);
        }
        if (part != 0 && part != 1) {
            return refuseLong(OTHER);
        }
        long likely = 0;
        long all = 0;
        for (int draughts = 0; draughts < 1 << n; draughts++) {
            long weight = weightOf(draughts, n, t);
            all += weight;
            if (givenBehind(door, n, draughts) <= v) {
                likely += weight;
            }
        }
        return partOf(likely, all, part);
    }

    private static long weightOf(int draughts, int n, int t) {
        long weight = 1;
        for (int i = 0; i < n; i++) {
            if ((draughts >> i & 1) == 0) {
                weight *= t - 1;
            }
        }
        return weight;
    }

    private int givenBehind(int door, int n, int draughts) {
        int kind = now.kind[door];
        int figure = now.figure[door];
        int heat = now.heat[door];
        for (int i = 0; i < n; i++) {
            if ((draughts >> i & 1) == 1) {
                heat /= 2;
            }
            heat = Kinds.cooled(kind, figure, heat, 1);
        }
        return Kinds.gives(kind, figure, heat);
    }

    public long mean(int part) {
        if (part != 0 && part != 1) {
            return refuseLong(OTHER);
        }
        return partOf(now.allHeat(), Math.max(1, now.doors), part);
    }

    /** One side of the line of a fraction in its lowest terms. */
    private static long partOf(long above, long below, int part) {
        long common = below;
        long rest = above;
        // Euclid needs far fewer rounds for any two longs.
        for (int i = 0; i < 200 && rest > 0; i++) {
            long next = common % rest;
            common = rest;
            rest = next;
        }
        if (common < 1) {
            common = 1;
        }
        return (part == 0 ? above : below) / common;
    }

    // ---- what a row tells

    public int row(int v) {
        if (v < 0) {
            return refuse(BELOW);
        }
        if (v > MOST_NUMBER || rowSize >= MOST_ROW) {
            return refuse(ABOVE);
        }
        numbers[rowSize] = v;
        rowSize++;
        return rowSize;
    }

    public int clear() {
        int had = rowSize;
        rowSize = 0;
        return had;
    }

    public int judge() {
        int wrong = NONE;
        for (int i = 0; i < rowSize && wrong == NONE; i++) {
            if (!now.hasDoor(i) || now.given(i) != numbers[i]) {
                wrong = i;
            }
        }
        rowSize = 0;
        return wrong;
    }

    public int who(int door) {
        if (!now.hasDoor(door)) {
            return refuse(NOBODY);
        }
        int kind = now.kind[door];
        int figure = now.figure[door];
        int bits = 0;
        for (int p = 0; p < now.people; p++) {
            if (rowTells(kind, figure, Kinds.keeps(kind, figure, now.said(p)))) {
                bits |= 1 << p;
            }
        }
        return bits;
    }

    public int whatIs(int door, int what) {
        if (!now.hasDoor(door)) {
            return refuse(NOBODY);
        }
        switch (what) {
            case 0: return kindsTold(now.figure[door], now.heat[door]);
            case 1: return figuresTold(now.kind[door], now.heat[door]);
            default: return refuse(OTHER);
        }
    }

    private int kindsTold(int figure, int heat) {
        int bits = 0;
        for (int kind = 0; kind < KINDS; kind++) {
            if (rowTells(kind, figure, heat)) {
                bits |= 1 << kind;
            }
        }
        return bits;
    }

    private int figuresTold(int kind, int heat) {
        int bits = 0;
        for (int figure = 0; figure <= MOST_FIGURE; figure++) {
            if (rowTells(kind, figure, heat)) {
                bits |= 1 << figure;
            }
        }
        return bits;
    }

    private boolean rowTells(int kind, int figure, int heat) {
        for (int i = 0; i < rowSize; i++) {
            if (numbers[i] != Kinds.cooled(kind, figure, heat, i)) {
                return false;
            }
        }
        return true;
    }

    // ---- days by lot

    public int lots(int n, int z, int what) {
        int bad = outside(n, 1, MOST_DAYS);
        if (bad < 0) {
            return refuse(bad);
        }
        if (what != 0 && what != 1) {
            return refuse(OTHER);
        }
        if (now.people < 1 || now.doors < 1) {
            return refuse(STATE);
        }
        int seed = z;
        int sum = 0;
        for (int day = 0; day < n; day++) {
            seed = dayByLot(seed);
            sum += what == 0 ? thought.allHeat() : thought.allMood();
        }
        return sum;
    }

    /** One day in thought from now; the seed goes on to the next day. */
    private int dayByLot(int z) {
        int seed = z;
        thought.copyFrom(now);
        for (int i = 0; i < DRAWS_A_DAY; i++) {
            seed = nextSeed(seed);
            int person = drawn(seed, thought.people);
            seed = nextSeed(seed);
            int door = drawn(seed, thought.doors);
            if (thought.canOpen(person, door)) {
                thought.open(person, door);
            }
        }
        thought.pass(1);
        return seed;
    }

    private static int nextSeed(int z) {
        return z * 1664525 + 1013904223;
    }

    private static int drawn(int z, int below) {
        return below < 1 ? 0 : (z & ALL_BUT_SIGN) / 256 % below;
    }

    // ---- the image and counts

    public int image() {
        kept.copyFrom(now);
        hasImage = true;
        return now.hour;
    }

    public int on() {
        if (!hasImage) {
            return refuse(STATE);
        }
        now.copyFrom(kept);
        return now.hour;
    }

    public int count(int what) {
        switch (what) {
            case 0: return now.doors;
            case 1: return now.people;
            case 2: return now.hour;
            case 3: return now.allHeat();
            case 4: return now.allMood();
            case 5: return (1 << now.doors) - 1 & ~now.doorsOfVoice(NO_VOICE);
            case 6: return rowSize;
            case 7: return telling.size;
            default: return refusalsCounted(what - 10);
        }
    }

    private int refusalsCounted(int number) {
        return number < 1 || number > REFUSAL_KINDS ? NONE : refusals[number];
    }

    // ---- refusals

    private int refuse(int number) {
        if (number < 0 && number >= -REFUSAL_KINDS) {
            refusals[-number]++;
        }
        return number;
    }

    private long refuseLong(int number) {
        return LONG_REFUSED - refuse(number);
    }

    private static int outside(int number, int least, int greatest) {
        if (number < least) {
            return BELOW;
        }
        return number > greatest ? ABOVE : 0;
    }

    private static boolean isRoom(int room) {
        return room >= 0 && room < ROOMS;
    }

    /** What the kinds of doors do; where a kind is not named, it does as the kind above it. */
    static final class Kinds {
        private Kinds() {
        }

        static int gives(int kind, int figure, int heat) {
            switch (kind) {
                case OAK: return heat;
                case CURTAIN: return 0;
                case SLAMMED: return slammedGives(figure, heat);
                case BAIZE: return slammedGives(figure, heat) / 2;
                default: return heat / 2;
            }
        }

        private static int slammedGives(int figure, int heat) {
            return heat > 0 ? heat + figure : heat;
        }

        static int keeps(int kind, int figure, int said) {
            switch (kind) {
                case CURTAIN:
                case GLASS: return Math.min(MOST_HEAT, said / 4);
                case SLAMMED:
                case BAIZE: return Math.min(MOST_HEAT, said + figure);
                default: return Math.min(MOST_HEAT, said);
            }
        }

        static int cooled(int kind, int figure, int heat, int n) {
            return Math.max(0, heat - n * coolsBy(kind, figure));
        }

        private static int coolsBy(int kind, int figure) {
            switch (kind) {
                case OAK: return 1;
                case SLAMMED:
                case BAIZE: return 0;
                case GLASS: return 2 + figure;
                default: return 2;
            }
        }

        static int ofLetter(int c) {
            switch (c) {
                case 'd': return DOOR;
                case 'o': return OAK;
                case 'c': return CURTAIN;
                case 's': return SLAMMED;
                case 'g': return GLASS;
                case 'b': return BAIZE;
                default: return NONE;
            }
        }
    }

    /** Doors, people and the hour: all that an image keeps. */
    static final class House {
        int doors = 0;
        final int[] kind = new int[MOST_DOORS];
        final int[] figure = new int[MOST_DOORS];
        final int[] oneRoom = new int[MOST_DOORS];
        final int[] otherRoom = new int[MOST_DOORS];
        final int[] heat = new int[MOST_DOORS];
        final int[] voice = new int[MOST_DOORS];
        int people = 0;
        final int[] temper = new int[MOST_PEOPLE];
        final int[] place = new int[MOST_PEOPLE];
        final int[] mood = new int[MOST_PEOPLE];
        int hour = 0;

        void copyFrom(House from) {
            doors = from.doors;
            for (int d = 0; d < doors; d++) {
                kind[d] = from.kind[d];
                figure[d] = from.figure[d];
                oneRoom[d] = from.oneRoom[d];
                otherRoom[d] = from.otherRoom[d];
                heat[d] = from.heat[d];
                voice[d] = from.voice[d];
            }
            people = from.people;
            for (int p = 0; p < people; p++) {
                temper[p] = from.temper[p];
                place[p] = from.place[p];
                mood[p] = from.mood[p];
            }
            hour = from.hour;
        }

        boolean hasDoor(int door) {
            return door >= 0 && door < doors;
        }

        boolean hasPerson(int person) {
            return person >= 0 && person < people;
        }

        boolean addDoor(int itsKind, int itsFigure, int one, int other) {
            if (doors >= MOST_DOORS || !isRoom(one) || !isRoom(other) || one == other) {
                return false;
            }
            kind[doors] = itsKind;
            figure[doors] = itsFigure;
            oneRoom[doors] = one;
            otherRoom[doors] = other;
            heat[doors] = 0;
            voice[doors] = NO_VOICE;
            doors++;
            return true;
        }

        boolean addPerson(int itsTemper, int room) {
            if (people >= MOST_PEOPLE || !isRoom(room)) {
                return false;
            }
            temper[people] = itsTemper;
            place[people] = room;
            mood[people] = 0;
            people++;
            return true;
        }

        boolean leadsFrom(int door, int room) {
            return oneRoom[door] == room || otherRoom[door] == room;
        }

        int beyond(int door, int room) {
            return oneRoom[door] == room ? otherRoom[door] : oneRoom[door];
        }

        boolean canOpen(int person, int door) {
            return leadsFrom(door, place[person]);
        }

        int given(int door) {
            return Kinds.gives(kind[door], figure[door], heat[door]);
        }

        int givenAfter(int door, int n) {
            int then = Kinds.cooled(kind[door], figure[door], heat[door], n);
            return Kinds.gives(kind[door], figure[door], then);
        }

        int said(int person) {
            return mood[person] / 2 + temper[person];
        }

        void open(int person, int door) {
            int given = Kinds.gives(kind[door], figure[door], heat[door]);
            mood[person] = Math.min(MOST_MOOD, mood[person] + given);
            fill(door, Kinds.keeps(kind[door], figure[door], said(person)), person);
            place[person] = beyond(door, place[person]);
            mood[person] = Math.max(0, mood[person] - RELIEF);
        }

        void fill(int door, int itsHeat, int person) {
            heat[door] = itsHeat;
            voice[door] = itsHeat > 0 ? person : NO_VOICE;
        }

        int heatAfter(int door, int n) {
            return Kinds.cooled(kind[door], figure[door], heat[door], n);
        }

        int moodAfter(int person, int n) {
            return Math.max(0, mood[person] - n * CALMING);
        }

        void pass(int n) {
            hour += n;
            for (int d = 0; d < doors; d++) {
                fill(d, Kinds.cooled(kind[d], figure[d], heat[d], n), voice[d]);
            }
            for (int p = 0; p < people; p++) {
                mood[p] = moodAfter(p, n);
            }
        }

        int allHeat() {
            int sum = 0;
            for (int d = 0; d < doors; d++) {
                sum += heat[d];
            }
            return sum;
        }

        int allMood() {
            int sum = 0;
            for (int p = 0; p < people; p++) {
                sum += mood[p];
            }
            return sum;
        }

        int doorsOfVoice(int whose) {
            int bits = 0;
            for (int d = 0; d < doors; d++) {
                if (voice[d] == whose) {
                    bits |= 1 << d;
                }
            }
            return bits;
        }
    }

    /** The letters that have come, and what they tell. */
    static final class Telling {
        private static final int MISSPELT = -1000;
        private static final int NOT_SO = -2000;

        private final int[] letters = new int[MOST_LETTERS];
        int size = 0;

        void add(int c) {
            if (size < MOST_LETTERS) {
                letters[size] = c;
                size++;
            }
        }

        private int at(int place) {
            return place >= 0 && place < size ? letters[place] : NONE;
        }

        private boolean isDigit(int place) {
            return at(place) >= '0' && at(place) <= '9';
        }

        private int digit(int place) {
            return isDigit(place) ? at(place) - '0' : 0;
        }

        private int twoDigits(int place) {
            return 10 * digit(place) + digit(place + 1);
        }

        /** How many letters a statement has with its ";", or 0 where no statement begins so. */
        private static int lengthOf(int begin) {
            switch (begin) {
                case 'd':
                case 'q': return 6;
                case 'p':
                case 'o':
                case 'h': return 4;
                case 'a': return 3;
                default: return 0;
            }
        }

        /** The fault of kind 1, or 0. */
        int misspelling() {
            if (size == 0) {
                return MISSPELT;
            }
            int begin = 0;
            for (int i = 0; i < MOST_LETTERS && begin < size; i++) {
                int length = lengthOf(at(begin));
                if (length == 0) {
                    return MISSPELT - begin;
                }
                for (int place = begin + 1; place < begin + length; place++) {
                    if (!fits(place, begin, length)) {
                        return MISSPELT - place;
                    }
                }
                begin += length;
            }
            return 0;
        }

        private boolean fits(int place, int begin, int length) {
            if (place == begin + length - 1) {
                return at(place) == ';';
            }
            if (place == begin + 1 && at(begin) == 'd') {
                return Kinds.ofLetter(at(place)) != NONE;
            }
            return isDigit(place);
        }

        /** How many statements there are, or the fault of kind 2; only for letters rightly spelt. */
        int carryOut(House house) {
            int begin = 0;
            int many = 0;
            for (int i = 0; i < MOST_LETTERS && begin < size; i++) {
                if (!happens(house, begin)) {
                    return NOT_SO - begin;
                }
                many++;
                begin += lengthOf(at(begin));
            }
            return many;
        }

        private boolean happens(House house, int begin) {
            switch (at(begin)) {
                case 'd': return house.addDoor(Kinds.ofLetter(at(begin + 1)),
                        digit(begin + 2), digit(begin + 3), digit(begin + 4));
                case 'p': return house.addPerson(digit(begin + 1), digit(begin + 2));
                case 'o': return isOpened(house, digit(begin + 1), digit(begin + 2));
                case 'q': return isFilled(house, digit(begin + 1), twoDigits(begin + 2), digit(begin + 4));
                case 'a': return isAired(house, digit(begin + 1));
                case 'h': return goBy(house, twoDigits(begin + 1));
                default: return false;
            }
        }

        private static boolean isOpened(House house, int person, int door) {
            if (!house.hasPerson(person) || !house.hasDoor(door) || !house.canOpen(person, door)) {
                return false;
            }
            house.open(person, door);
            return true;
        }

        private static boolean isFilled(House house, int door, int heat, int person) {
            if (!house.hasDoor(door) || !house.hasPerson(person)) {
                return false;
            }
            house.fill(door, heat, person);
            return true;
        }

        private static boolean isAired(House house, int door) {
            if (!house.hasDoor(door)) {
                return false;
            }
            house.fill(door, 0, NO_VOICE);
            return true;
        }

        private static boolean goBy(House house, int n) {
            if (n < 1 || n > MOST_HOURS || house.hour + n > LAST_HOUR) {
                return false;
            }
            house.pass(n);
            return true;
        }
    }

    /**
     * The best ways from all rooms to one. The price of a way holds what it gives and how many
     * doors it has in one number, so that the least price settles both at once; as each door
     * costs at least 1, no best way comes through a room, or a door, twice.
     */
    static final class Ways {
        static final int BARRED = -1;
        private static final int GIVEN = 16;
        private static final int FAR = 1000000;

        private final int[] toll = new int[MOST_DOORS];
        private final int[] price = new int[ROOMS];

        void tollNothing() {
            for (int d = 0; d < MOST_DOORS; d++) {
                toll[d] = 0;
            }
        }

        void tollAfter(House house, int n) {
            for (int d = 0; d < house.doors; d++) {
                toll[d] = house.givenAfter(d, n);
            }
        }

        void setToll(int door, int itsToll) {
            if (door >= 0 && door < MOST_DOORS) {
                toll[door] = itsToll;
            }
        }

        void leadTo(House house, int room) {
            for (int r = 0; r < ROOMS; r++) {
                price[r] = r == room ? 0 : FAR;
            }
            boolean better = true;
            for (int round = 0; round < ROOMS && better; round++) {
                better = false;
                for (int d = 0; d < house.doors; d++) {
                    boolean there = isCheaper(d, house.oneRoom[d], house.otherRoom[d]);
                    boolean back = isCheaper(d, house.otherRoom[d], house.oneRoom[d]);
                    better = better || there || back;
                }
            }
        }

        private boolean isCheaper(int door, int from, int to) {
            int through = priceThrough(door, to);
            if (from < 0 || from >= ROOMS || through >= price[from]) {
                return false;
            }
            price[from] = through;
            return true;
        }

        private int priceThrough(int door, int to) {
            if (door < 0 || door >= MOST_DOORS || toll[door] == BARRED) {
                return FAR;
            }
            return Math.min(FAR, priceFrom(to) + GIVEN * toll[door] + 1);
        }

        private int priceFrom(int room) {
            return room < 0 || room >= ROOMS ? FAR : price[room];
        }

        int givenFrom(int room) {
            return priceFrom(room) >= FAR ? NONE : priceFrom(room) / GIVEN;
        }

        int doorsFrom(int room) {
            return priceFrom(room) >= FAR ? NONE : priceFrom(room) % GIVEN;
        }

        /** The least door with which a best way from this room can begin. */
        int doorFrom(House house, int room) {
            if (priceFrom(room) >= FAR) {
                return NONE;
            }
            for (int d = 0; d < house.doors; d++) {
                if (house.leadsFrom(d, room) && priceThrough(d, house.beyond(d, room)) == priceFrom(room)) {
                    return d;
                }
            }
            return NONE;
        }
    }
}
