import java.util.ArrayList;
import java.util.List;

/**
 * The document told a second time, slowly and in another way: kinds as a tree of classes, hours one
 * by one, ways by trying every run of doors, odds by recursion. ModelTest sets the class beside it.
 */
public final class Model {
    static final class Refused extends RuntimeException {
        private static final long serialVersionUID = 1L;
        final int number;

        Refused(int number) {
            super(null, null, false, false);
            this.number = number;
        }
    }

    static class Plain {
        int gives(int heat, int figure) {
            return heat / 2;
        }

        int keeps(int said, int figure) {
            return said;
        }

        int cools(int figure) {
            return 2;
        }
    }

    static class Oak extends Plain {
        @Override int gives(int heat, int figure) {
            return heat;
        }

        @Override int cools(int figure) {
            return super.cools(figure) - 1;
        }
    }

    static class Curtain extends Plain {
        @Override int gives(int heat, int figure) {
            return 0;
        }

        @Override int keeps(int said, int figure) {
            return said / 4;
        }
    }

    static class Slammed extends Oak {
        @Override int gives(int heat, int figure) {
            return super.gives(heat, figure) + (heat > 0 ? figure : 0);
        }

        @Override int keeps(int said, int figure) {
            return said + figure;
        }

        @Override int cools(int figure) {
            return super.cools(figure) - 1;
        }
    }

    static class Glass extends Curtain {
        @Override int gives(int heat, int figure) {
            return new Plain().gives(heat, figure);
        }

        @Override int cools(int figure) {
            return super.cools(figure) + figure;
        }
    }

    static class Baize extends Slammed {
        @Override int gives(int heat, int figure) {
            return super.gives(heat, figure) / 2;
        }
    }

    private static final Plain[] KINDS = {
        new Plain(), new Oak(), new Curtain(), new Slammed(), new Glass(), new Baize()};

    static final class Door {
        int kind;
        int figure;
        int one;
        int other;
        int heat;
        int voice = 9;

        Door copy() {
            Door d = new Door();
            d.kind = kind;
            d.figure = figure;
            d.one = one;
            d.other = other;
            d.heat = heat;
            d.voice = voice;
            return d;
        }

        int gives() {
            return KINDS[kind].gives(heat, figure);
        }

        void set(int h, int who) {
            heat = Math.min(99, h);
            voice = heat > 0 ? who : 9;
        }

        void hour() {
            heat = Math.max(0, heat - KINDS[kind].cools(figure));
            if (heat == 0) {
                voice = 9;
            }
        }

        boolean of(int room) {
            return one == room || other == room;
        }
    }

    static final class Person {
        int temper;
        int room;
        int mood;

        Person copy() {
            Person p = new Person();
            p.temper = temper;
            p.room = room;
            p.mood = mood;
            return p;
        }

        int says() {
            return mood / 2 + temper;
        }
    }

    static final class World {
        final List<Door> doors = new ArrayList<>();
        final List<Person> people = new ArrayList<>();
        int hour;

        World copy() {
            World w = new World();
            for (Door d : doors) {
                w.doors.add(d.copy());
            }
            for (Person p : people) {
                w.people.add(p.copy());
            }
            w.hour = hour;
            return w;
        }

        void open(int person, int door) {
            Person p = people.get(person);
            Door d = doors.get(door);
            p.mood = Math.min(99, p.mood + d.gives());
            d.set(KINDS[d.kind].keeps(p.says(), d.figure), person);
            p.room = p.room == d.one ? d.other : d.one;
            p.mood = Math.max(0, p.mood - 5);
        }

        World on(int hours) {
            World w = copy();
            for (int i = 0; i < hours; i++) {
                w.hour();
            }
            return w;
        }

        void hour() {
            hour++;
            for (Door d : doors) {
                d.hour();
            }
            for (Person p : people) {
                p.mood = Math.max(0, p.mood - 3);
            }
        }

        int heat() {
            return doors.stream().mapToInt(d -> d.heat).sum();
        }

        int mood() {
            return people.stream().mapToInt(p -> p.mood).sum();
        }
    }

    /** Tries every run of doors, each at most once, the least door first. */
    static final class Search {
        private final World world;
        private final int target;
        private final int without;
        private int bestGiven = Integer.MAX_VALUE;
        private List<Integer> best = null;
        private final List<Integer> run = new ArrayList<>();

        Search(World world, int from, int target, int without) {
            this.world = world;
            this.target = target;
            this.without = without;
            if ((flood(world, from, without) >> target & 1) == 1) {
                go(from, 0);
            }
        }

        private void go(int room, int given) {
            if (best != null && (given > bestGiven || given == bestGiven && run.size() >= best.size())) {
                return;
            }
            if (room == target) {
                best = new ArrayList<>(run);
                bestGiven = given;
                return;
            }
            for (int d = 0; d < world.doors.size(); d++) {
                Door door = world.doors.get(d);
                if (d != without && door.of(room) && !run.contains(d)) {
                    run.add(d);
                    go(door.one == room ? door.other : door.one, given + door.gives());
                    run.remove(run.size() - 1);
                }
            }
        }

        boolean found() {
            return best != null;
        }
    }

    private static int flood(World w, int from, int without) {
        int bits = 1 << from;
        for (int i = 0; i < 7; i++) {
            for (int d = 0; d < w.doors.size(); d++) {
                Door door = w.doors.get(d);
                int both = 1 << door.one | 1 << door.other;
                if (d != without && (bits & both) != 0) {
                    bits |= both;
                }
            }
        }
        return bits;
    }

    private World w = new World();
    private World image = null;
    private final StringBuilder text = new StringBuilder();
    private final List<Integer> row = new ArrayList<>();
    private final int[] refusals = new int[7];

    private static void need(boolean so, int number) {
        if (!so) {
            throw new Refused(number);
        }
    }

    private boolean isDoor(int d) {
        return d >= 0 && d < w.doors.size();
    }

    private boolean isPerson(int p) {
        return p >= 0 && p < w.people.size();
    }

    private static boolean isRoom(int r) {
        return r >= 0 && r <= 6;
    }

    private static void range(int v, int least, int most) {
        need(v >= least, -4);
        need(v <= most, -6);
    }

    private static void oneOf(int what, int many) {
        need(what >= 0 && what < many, -2);
    }

    /** The answer as the class must tell it, with a refusal counted. */
    long counted(Refused r, String call) {
        refusals[-r.number]++;
        switch (call) {
            case "echo": return 1000000000L - r.number;
            case "draught":
            case "mean": return 4000000000000000000L - r.number;
            default: return r.number;
        }
    }

    public int letter(int c) {
        range(c, 0, 255);
        need(text.length() < 96, -6);
        text.append((char) c);
        return text.length();
    }

    private static final String WHOLE =
            "(d[docsgb][0-9]{3};|p[0-9]{2};|o[0-9]{2};|q[0-9]{4};|a[0-9];|h[0-9]{2};)+";

    /** Whether some house begins with these letters: by completing them in every way that matters. */
    private static boolean canGoOn(String prefix) {
        String[] tails = {"", ";", "0;", "00;", "000;", "0000;", "d000;", "d0000;", "p00;"};
        for (String tail : tails) {
            if ((prefix + tail).matches(WHOLE)) {
                return true;
            }
        }
        return false;
    }

    public int house() {
        String told = text.toString();
        text.setLength(0);
        for (int i = 0; i < told.length(); i++) {
            if (!canGoOn(told.substring(0, i + 1))) {
                return -1000 - i;
            }
        }
        if (!told.matches(WHOLE)) {
            return -1000 - told.length();
        }
        World was = w.copy();
        int place = 0;
        int many = 0;
        for (String statement : told.split(";")) {
            if (!happens(statement)) {
                w = was;
                return -2000 - place;
            }
            place += statement.length() + 1;
            many++;
        }
        return many;
    }

    private boolean happens(String s) {
        switch (s.charAt(0)) {
            case 'd': {
                Door d = new Door();
                d.kind = "docsgb".indexOf(s.charAt(1));
                d.figure = s.charAt(2) - '0';
                d.one = s.charAt(3) - '0';
                d.other = s.charAt(4) - '0';
                w.doors.add(d);
                return isRoom(d.one) && isRoom(d.other) && d.one != d.other && w.doors.size() <= 9;
            }
            case 'p': {
                Person p = new Person();
                p.temper = s.charAt(1) - '0';
                p.room = s.charAt(2) - '0';
                w.people.add(p);
                return isRoom(p.room) && w.people.size() <= 6;
            }
            case 'o': {
                int p = s.charAt(1) - '0';
                int d = s.charAt(2) - '0';
                boolean so = isPerson(p) && isDoor(d) && w.doors.get(d).of(w.people.get(p).room);
                if (so) {
                    w.open(p, d);
                }
                return so;
            }
            case 'q': {
                int d = s.charAt(1) - '0';
                int p = s.charAt(4) - '0';
                boolean so = isPerson(p) && isDoor(d);
                if (so) {
                    w.doors.get(d).set(Integer.parseInt(s.substring(2, 4)), p);
                }
                return so;
            }
            case 'a': {
                int d = s.charAt(1) - '0';
                if (isDoor(d)) {
                    w.doors.get(d).set(0, 9);
                }
                return isDoor(d);
            }
            default: {
                int n = Integer.parseInt(s.substring(1));
                w = w.on(n);
                return n >= 1 && n <= 60 && w.hour <= 999;
            }
        }
    }

    public int door(int door, int what) {
        need(isDoor(door), -1);
        oneOf(what, 7);
        Door d = w.doors.get(door);
        return new int[] {d.kind, d.figure, d.one, d.other, d.heat, d.voice, d.gives()}[what];
    }

    public int person(int person, int what) {
        need(isPerson(person), -1);
        oneOf(what, 4);
        Person p = w.people.get(person);
        return new int[] {p.temper, p.room, p.mood, p.says()}[what];
    }

    public int opens(int person, int door) {
        need(isPerson(person) && isDoor(door), -1);
        need(w.doors.get(door).of(w.people.get(person).room), -3);
        w.open(person, door);
        return w.people.get(person).mood;
    }

    public int quarrels(int door, int v, int person) {
        need(isPerson(person) && isDoor(door), -1);
        range(v, 0, 99);
        int was = w.doors.get(door).heat;
        w.doors.get(door).set(v, person);
        return was;
    }

    public int airs(int door) {
        need(isDoor(door), -1);
        int was = w.doors.get(door).heat;
        w.doors.get(door).set(0, 9);
        return was;
    }

    public int moods(int person, int v) {
        need(isPerson(person), -1);
        range(v, 0, 99);
        int was = w.people.get(person).mood;
        w.people.get(person).mood = v;
        return was;
    }

    public int stands(int person, int room) {
        need(isPerson(person) && isRoom(room), -1);
        int was = w.people.get(person).room;
        w.people.get(person).room = room;
        return was;
    }

    public int turn(int door, int kind, int figure) {
        need(isDoor(door), -1);
        oneOf(kind, 6);
        range(figure, 0, 9);
        Door d = w.doors.get(door);
        int was = 10 * d.kind + d.figure;
        d.kind = kind;
        d.figure = figure;
        return was;
    }

    public int hours(int n) {
        range(n, 1, 60);
        need(w.hour + n <= 999, -6);
        w = w.on(n);
        return w.heat();
    }

    public int doorThen(int door, int n, int what) {
        need(isDoor(door), -1);
        range(n, 0, 60);
        oneOf(what, 2);
        Door d = w.on(n).doors.get(door);
        return what == 0 ? d.heat : d.voice;
    }

    public int moodThen(int person, int n) {
        need(isPerson(person), -1);
        range(n, 0, 60);
        return w.on(n).people.get(person).mood;
    }

    public int first(int what) {
        oneOf(what, 3);
        if (what == 0) {
            World then = w.copy();
            for (int n = 0; n <= 60; n++) {
                if (then.heat() == 0) {
                    return n;
                }
                then.hour();
            }
            return -9;
        }
        int best = -9;
        for (int d = w.doors.size() - 1; d >= 0; d--) {
            if (best < 0 || rank(d, what) >= rank(best, what)) {
                best = d;
            }
        }
        return best;
    }

    private int rank(int d, int what) {
        return what == 1 ? w.doors.get(d).gives() : w.doors.get(d).heat;
    }

    private Search search(World world, int person, int room, int without) {
        need(isPerson(person) && isRoom(room), -1);
        return new Search(world, world.people.get(person).room, room, without);
    }

    public int way(int person, int room, int what) {
        Search s = search(w, person, room, -1);
        oneOf(what, 3);
        if (!s.found()) {
            return -9;
        }
        if (what == 2) {
            return s.best.isEmpty() ? -9 : s.best.get(0);
        }
        return what == 0 ? s.bestGiven : s.best.size();
    }

    public int fewest(int person, int room) {
        World cold = w.copy();
        cold.doors.forEach(d -> d.set(0, 9));
        Search s = search(cold, person, room, -1);
        return s.found() ? s.best.size() : -9;
    }

    public int near(int person) {
        need(isPerson(person), -1);
        return flood(w, w.people.get(person).room, -1);
    }

    public int cutOff() {
        int bits = 0;
        for (int r = 0; r < 7; r++) {
            int room = r;
            if (w.doors.stream().noneMatch(d -> d.of(room))) {
                bits += 1 << r;
            }
        }
        return bits;
    }

    public int goes(int person, int room) {
        Search s = search(w, person, room, -1);
        if (!s.found()) {
            return -9;
        }
        World then = w.copy();
        for (int d : s.best) {
            then.open(person, d);
        }
        return then.people.get(person).mood;
    }

    public int air(int person, int room) {
        Search s = search(w, person, room, -1);
        int best = -9;
        int least = s.bestGiven;
        for (int d = 0; s.found() && d < w.doors.size(); d++) {
            World aired = w.copy();
            aired.doors.get(d).set(0, 9);
            int given = search(aired, person, room, -1).bestGiven;
            if (given < least) {
                least = given;
                best = d;
            }
        }
        return best;
    }

    public int shut(int person, int room) {
        Search s = search(w, person, room, -1);
        for (int d = 0; s.found() && d < w.doors.size(); d++) {
            if (!search(w, person, room, d).found()) {
                return d;
            }
        }
        return -9;
    }

    public int pause(int person, int room, int v) {
        search(w, person, room, -1);
        range(v, 0, 99);
        for (int n = 0; n <= 60; n++) {
            Search s = search(w.on(n), person, room, -1);
            if (s.found() && s.bestGiven <= v) {
                return n;
            }
        }
        return -9;
    }

    public int walk(int person, int what) {
        need(isPerson(person), -1);
        oneOf(what, 2);
        World then = w.copy();
        int place = 0;
        for (int d : row) {
            if (!isDoor(d) || !then.doors.get(d).of(then.people.get(person).room)) {
                break;
            }
            then.open(person, d);
            place++;
        }
        if (what == 1) {
            return then.people.get(person).mood;
        }
        return place == row.size() ? -9 : place;
    }

    private void together(int a, int b, int door) {
        need(isPerson(a) && isPerson(b) && isDoor(door) && a != b, -1);
        int room = w.people.get(a).room;
        need(room == w.people.get(b).room && w.doors.get(door).of(room), -3);
    }

    private World after(int door, int... who) {
        World then = w.copy();
        for (int p : who) {
            then.open(p, door);
        }
        return then;
    }

    public int order(int a, int b, int door) {
        together(a, b, door);
        int low = Math.min(a, b);
        int high = Math.max(a, b);
        int lowFirst = 0;
        int highFirst = 0;
        for (int p : new int[] {a, b}) {
            lowFirst += after(door, low, high).people.get(p).mood;
            highFirst += after(door, high, low).people.get(p).mood;
        }
        return highFirst < lowFirst ? high : low;
    }

    public int echo(int a, int b, int door) {
        together(a, b, door);
        return after(door, a, b).people.get(b).mood - after(door, b).people.get(b).mood;
    }

    public int two(int a, int b, int door) {
        together(a, b, door);
        int[][] ofA = new int[2][2];
        int[][] ofB = new int[2][2];
        for (int x = 0; x < 2; x++) {
            for (int y = 0; y < 2; y++) {
                World then = x == 1 ? (y == 1 ? after(door, a, b) : after(door, a))
                        : (y == 1 ? after(door, b) : after(door));
                ofA[x][y] = then.people.get(a).mood - 4 * x;
                ofB[x][y] = then.people.get(b).mood - 4 * y;
            }
        }
        for (int x = 0; x < 2; x++) {
            for (int y = 0; y < 2; y++) {
                if (ofA[1 - x][y] >= ofA[x][y] && ofB[x][1 - y] >= ofB[x][y]) {
                    return 10 * x + y;
                }
            }
        }
        return -9;
    }

    private int doorsOf(int voice) {
        int bits = 0;
        for (int d = 0; d < w.doors.size(); d++) {
            bits += w.doors.get(d).voice == voice ? 1 << d : 0;
        }
        return bits;
    }

    public int voices(int person) {
        need(person == -1 || isPerson(person), -1);
        return doorsOf(person == -1 ? 9 : person);
    }

    public int heard(int what) {
        oneOf(what, 2);
        int best = -9;
        int most = what == 0 ? 1 : 0;
        for (int p = w.people.size() - 1; p >= 0; p--) {
            int rank = what == 0 ? Integer.bitCount(doorsOf(p)) : w.people.get(p).mood;
            if (rank >= most) {
                most = rank;
                best = p;
            }
        }
        return best;
    }

    public int meet(int what) {
        oneOf(what, 2);
        int best = -9;
        int least = -9;
        for (int r = 6; r >= 0; r--) {
            int sum = 0;
            boolean all = true;
            for (int p = 0; p < w.people.size(); p++) {
                Search s = search(w, p, r, -1);
                all &= s.found();
                sum += s.found() ? s.bestGiven : 0;
            }
            if (all && (best < 0 || sum <= least)) {
                best = r;
                least = sum;
            }
        }
        return what == 0 ? best : least;
    }

    private long likely(Door d, int n, int t, int v) {
        if (n == 0) {
            return d.gives() <= v ? 1 : 0;
        }
        Door still = d.copy();
        still.hour();
        Door draught = d.copy();
        draught.set(d.heat / 2, d.voice);
        draught.hour();
        return (t - 1) * likely(still, n - 1, t, v) + likely(draught, n - 1, t, v);
    }

    private static long lowest(long above, long below, int part) {
        long g = java.math.BigInteger.valueOf(above).gcd(java.math.BigInteger.valueOf(below)).longValue();
        return (part == 0 ? above : below) / g;
    }

    public long draught(int door, int n, int t, int v, int part) {
        need(isDoor(door), -1);
        need(n >= 0 && v >= 0 && t >= 2, -4);
        need(n <= 7 && v <= 99 && t <= 20, -6);
        oneOf(part, 2);
        long all = 1;
        for (int i = 0; i < n; i++) {
            all *= t;
        }
        return lowest(likely(w.doors.get(door), n, t, v), all, part);
    }

    public long mean(int part) {
        oneOf(part, 2);
        return w.doors.isEmpty() ? part : lowest(w.heat(), w.doors.size(), part);
    }

    private boolean told(Door d) {
        Door then = d.copy();
        for (int v : row) {
            if (then.heat != v) {
                return false;
            }
            then.hour();
        }
        return true;
    }

    public int who(int door) {
        need(isDoor(door), -1);
        int bits = 0;
        for (int p = 0; p < w.people.size(); p++) {
            Door d = w.doors.get(door).copy();
            d.set(KINDS[d.kind].keeps(w.people.get(p).says(), d.figure), p);
            bits += told(d) ? 1 << p : 0;
        }
        return bits;
    }

    public int whatIs(int door, int what) {
        need(isDoor(door), -1);
        oneOf(what, 2);
        int bits = 0;
        for (int i = 0; i < (what == 0 ? 6 : 10); i++) {
            Door d = w.doors.get(door).copy();
            if (what == 0) {
                d.kind = i;
            } else {
                d.figure = i;
            }
            bits += told(d) ? 1 << i : 0;
        }
        return bits;
    }

    public int row(int v) {
        range(v, 0, 99);
        need(row.size() < 16, -6);
        row.add(v);
        return row.size();
    }

    public int judge() {
        int wrong = -9;
        for (int i = row.size() - 1; i >= 0; i--) {
            if (!isDoor(i) || w.doors.get(i).gives() != row.get(i)) {
                wrong = i;
            }
        }
        row.clear();
        return wrong;
    }

    public int clear() {
        int had = row.size();
        row.clear();
        return had;
    }

    public int lots(int n, int z, int what) {
        range(n, 1, 20);
        oneOf(what, 2);
        need(!w.people.isEmpty() && !w.doors.isEmpty(), -3);
        long seed = z;
        int sum = 0;
        for (int day = 0; day < n; day++) {
            World then = w.copy();
            for (int i = 0; i < 12; i++) {
                seed = (int) (seed * 1664525L + 1013904223L);
                int p = (int) ((seed & 0x7fffffffL) >> 8) % w.people.size();
                seed = (int) (seed * 1664525L + 1013904223L);
                int d = (int) ((seed & 0x7fffffffL) >> 8) % w.doors.size();
                if (then.doors.get(d).of(then.people.get(p).room)) {
                    then.open(p, d);
                }
            }
            then.hour();
            sum += what == 0 ? then.heat() : then.mood();
        }
        return sum;
    }

    public int image() {
        image = w.copy();
        return w.hour;
    }

    public int on() {
        need(image != null, -3);
        w = image.copy();
        return w.hour;
    }

    public int count(int what) {
        if (what >= 11 && what <= 16) {
            return refusals[what - 10];
        }
        if (what < 0 || what > 7) {
            return -9;
        }
        return new int[] {w.doors.size(), w.people.size(), w.hour, w.heat(), w.mood(),
            (1 << w.doors.size()) - 1 - doorsOf(9), row.size(), text.length()}[what];
    }
}
