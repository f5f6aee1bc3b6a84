import java.util.function.Supplier;

/**
 * Every call with every bound of its arguments, each with each, in a house that is empty, in one with
 * one thing of each, in one that is full, and in ones that were full for a while or, by a fault, never
 * became so: whether the call is refused, by the first refusal that fits in the order in which it tells
 * them, that this is counted once, and that nothing else changes.
 */
public final class RefusalsTest {
    private static final Check CHECK = new Check();
    private static final int LOW = Integer.MIN_VALUE;
    private static final int HIGH = Integer.MAX_VALUE;
    private static final int ACT = 1;
    private static final int LOOK = 0;

    private static final String SINGLE = "ds501;p50;q0400;";
    private static final int[] DOORS = {LOW, -1, 0, 1, 8, 9, HIGH};
    private static final int[] PEOPLE = {LOW, -1, 0, 1, 5, 6, HIGH};
    private static final int[] ROOMS = {LOW, -1, 0, 6, 7, HIGH};
    private static final int[] HUNDRED = {LOW, -1, 0, 99, 100, HIGH};
    private static final int[] SIXTY = {LOW, -1, 0, 60, 61, HIGH};
    private static final int[] WHATS = {LOW, -1, 0, 1, 2, 3, 4, 6, 7, HIGH};
    private static final int[] PARTS = {LOW, -1, 0, 1, 2, HIGH};

    /** The refusal that is due, or 0. */
    private interface Due {
        int number(int[] a);
    }

    private final String name;
    private final Supplier<DoorKeepsQuarrel> made;
    private final int doors;
    private final int people;
    private final int hour;
    private final boolean full;
    private final boolean imaged;
    private int calls = 0;

    private RefusalsTest(String name, Supplier<DoorKeepsQuarrel> made, int many, int hour, boolean imaged) {
        this.name = name;
        this.made = made;
        this.doors = many == 0 ? 0 : many == 1 ? 1 : 9;
        this.people = many == 0 ? 0 : many == 1 ? 1 : 6;
        this.hour = hour;
        this.full = many > 1;
        this.imaged = imaged;
    }

    public static void main(String[] args) {
        RefusalsTest[] all = {
            new RefusalsTest("empty", DoorKeepsQuarrel::new, 0, 0, false),
            new RefusalsTest("one", RefusalsTest::single, 1, 0, false),
            new RefusalsTest("full", RefusalsTest::full, 2, 950, true),
            new RefusalsTest("empty again", () -> fullForAWhile(new DoorKeepsQuarrel()), 0, 0, true),
            new RefusalsTest("one again", () -> fullForAWhile(CHECK.house(SINGLE)), 1, 0, true),
            new RefusalsTest("empty behind a fault", () -> notFull(new DoorKeepsQuarrel()), 0, 0, false),
            new RefusalsTest("one behind a fault", () -> notFull(CHECK.house(SINGLE)), 1, 0, false)};
        for (RefusalsTest test : all) {
            test.acts();
            test.looks();
            test.ways();
            test.pairs();
            test.rows();
            test.rest();
            CHECK.due("calls of the face looked at, but house()", test.calls, Calls.many() - 1);
        }
        CHECK.end();
    }

    /** A door, somebody, a number in the row, a letter; no image. */
    private static DoorKeepsQuarrel single() {
        DoorKeepsQuarrel x = CHECK.house(SINGLE);
        x.row(40);
        x.letter('p');
        return x;
    }

    /** Nine doors, six people, 16 in the row, 96 letters, an image, 950 hours. */
    private static DoorKeepsQuarrel full() {
        DoorKeepsQuarrel x = CHECK.house("dd001;do101;dc212;ds323;dg434;db545;dd006;do015;dc256;p50;p30;p93;p04;p16;p26;");
        filled(x, 70, 9);
        x.hours(3);
        x.image();
        for (int i = 0; i < 15; i++) {
            x.hours(60);
        }
        x.hours(47);
        filled(x, 91, 40);
        // The row tells what the oak, door 1, cools by, so that another number in it shows.
        x.quarrels(1, 99, 4);
        for (int i = 0; i < 16; i++) {
            x.row(99 - i);
        }
        for (int i = 0; i < 24; i++) {
            "h01;".chars().forEach(x::letter);
        }
        return x;
    }

    /** Much is told and lived; then all is as it was. */
    private static DoorKeepsQuarrel fullForAWhile(DoorKeepsQuarrel x) {
        x.image();
        Check.tell(x, "dd001;".repeat(9 - x.count(0)));
        Check.tell(x, "p50;".repeat(6 - x.count(1)));
        filled(x, 91, 40);
        x.hours(9);
        x.on();
        return x;
    }

    /** Much is told, and none of it comes. */
    private static DoorKeepsQuarrel notFull(DoorKeepsQuarrel x) {
        String doors = "dd001;".repeat(9 - x.count(0));
        CHECK.due("a fault", Check.tell(x, doors + "p50;".repeat(6 - x.count(1)) + "h09;dd001;"),
                -2000 - doors.length() - 4 * (6 - x.count(1)) - 4);
        return x;
    }

    private static void filled(DoorKeepsQuarrel x, int heat, int mood) {
        for (int d = 0; d < 9; d++) {
            x.quarrels(d, heat - 3 * d, d % 6);
        }
        for (int p = 0; p < 6; p++) {
            x.moods(p, mood + 2 * p);
        }
    }

    // ---- what there is, told apart from the class

    private boolean noDoor(int d) {
        return d < 0 || d >= doors;
    }

    private boolean nobody(int p) {
        return p < 0 || p >= people;
    }

    private static boolean noRoom(int r) {
        return r < 0 || r > 6;
    }

    private static boolean not(int what, int last) {
        return what < 0 || what > last;
    }

    private static int roomOf(int person) {
        return new int[] {0, 0, 3, 4, 6, 6}[person];
    }

    private static boolean isOf(int door, int room) {
        String rooms = new String[] {"01", "01", "12", "23", "34", "45", "06", "15", "56"}[door];
        return rooms.indexOf('0' + room) >= 0;
    }

    /** The first number whose condition holds; conditions and numbers by turns. */
    private static int first(Object... told) {
        for (int i = 0; i < told.length; i += 2) {
            if ((Boolean) told[i]) {
                return (Integer) told[i + 1];
            }
        }
        return 0;
    }

    // ---- each with each

    private void each(String call, int acts, Due due, int[]... places) {
        calls++;
        int[] at = new int[places.length];
        int place = 0;
        while (place >= 0) {
            int[] a = new int[places.length];
            for (int i = 0; i < a.length; i++) {
                a[i] = places[i][at[i]];
            }
            one(call, acts, due.number(a), a);
            place = at.length - 1;
            while (place >= 0 && ++at[place] == places[place].length) {
                at[place] = 0;
                place--;
            }
        }
    }

    private void one(String call, int acts, int number, int[] a) {
        String told = name + ": " + Calls.told(call, a);
        DoorKeepsQuarrel x = made.get();
        DoorKeepsQuarrel twin = made.get();
        long answer = Calls.ask(x, call, a);
        if (number != 0) {
            CHECK.due(told, answer, form(call) == 0 ? number : form(call) - number);
            Twins.differByARefusal(CHECK, told, x, twin, number);
            return;
        }
        CHECK.so(told + " is not refused: " + answer, answer >= 0 && answer < 1000000000 * 2L || answer == -9
                || call.equals("echo") && Math.abs(answer) < 100);
        if (acts == ACT) {
            Twins.refusalsDiffer(CHECK, told, x, twin, 0);
        } else {
            Twins.areAlike(CHECK, told, x, twin);
        }
    }

    private static long form(String call) {
        switch (call) {
            case "echo": return 1000000000L;
            case "draught":
            case "mean": return 4000000000000000000L;
            default: return 0;
        }
    }

    private void acts() {
        each("letter", ACT, a -> first(a[0] < 0, -4, a[0] > 255 || full, -6), new int[] {LOW, -1, 0, 255, 256, HIGH});
        each("opens", ACT, a -> nobody(a[0]) || noDoor(a[1]) ? -1 : isOf(a[1], roomOf(a[0])) ? 0 : -3, PEOPLE, DOORS);
        each("quarrels", ACT, a -> first(noDoor(a[0]) || nobody(a[2]), -1, a[1] < 0, -4, a[1] > 99, -6),
                DOORS, HUNDRED, PEOPLE);
        each("airs", ACT, a -> first(noDoor(a[0]), -1), DOORS);
        each("moods", ACT, a -> first(nobody(a[0]), -1, a[1] < 0, -4, a[1] > 99, -6), PEOPLE, HUNDRED);
        each("stands", ACT, a -> first(nobody(a[0]) || noRoom(a[1]), -1), PEOPLE, ROOMS);
        each("turn", ACT, a -> first(noDoor(a[0]), -1, not(a[1], 5), -2, a[2] < 0, -4, a[2] > 9, -6),
                DOORS, new int[] {LOW, -1, 0, 5, 6, HIGH}, new int[] {LOW, -1, 0, 9, 10, HIGH});
        each("hours", ACT, a -> first(a[0] < 1, -4, a[0] > 60 || hour + a[0] > 999, -6),
                new int[] {LOW, -1, 0, 1, 49, 50, 60, 61, HIGH});
    }

    private void looks() {
        each("door", LOOK, a -> first(noDoor(a[0]), -1, not(a[1], 6), -2), DOORS, WHATS);
        each("person", LOOK, a -> first(nobody(a[0]), -1, not(a[1], 3), -2), PEOPLE, WHATS);
        each("doorThen", LOOK, a -> first(noDoor(a[0]), -1, a[1] < 0, -4, a[1] > 60, -6, not(a[2], 1), -2),
                DOORS, SIXTY, WHATS);
        each("moodThen", LOOK, a -> first(nobody(a[0]), -1, a[1] < 0, -4, a[1] > 60, -6), PEOPLE, SIXTY);
        each("first", LOOK, a -> first(not(a[0], 2), -2), WHATS);
        each("voices", LOOK, a -> first(a[0] != -1 && nobody(a[0]), -1), new int[] {LOW, -2, -1, 0, 1, 5, 6, 9, HIGH});
        each("heard", LOOK, a -> first(not(a[0], 1), -2), WHATS);
        each("meet", LOOK, a -> first(not(a[0], 1), -2), WHATS);
        each("cutOff", LOOK, a -> 0);
    }

    private void ways() {
        Due either = a -> first(nobody(a[0]) || noRoom(a[1]), -1);
        each("way", LOOK, a -> first(either.number(a) < 0, -1, not(a[2], 2), -2), PEOPLE, ROOMS, WHATS);
        each("fewest", LOOK, either, PEOPLE, ROOMS);
        each("near", LOOK, a -> first(nobody(a[0]), -1), PEOPLE);
        each("goes", LOOK, either, PEOPLE, ROOMS);
        each("air", LOOK, either, PEOPLE, ROOMS);
        each("shut", LOOK, either, PEOPLE, ROOMS);
        each("pause", LOOK, a -> first(either.number(a) < 0, -1, a[2] < 0, -4, a[2] > 99, -6), PEOPLE, ROOMS, HUNDRED);
        each("walk", LOOK, a -> first(nobody(a[0]), -1, not(a[1], 1), -2), PEOPLE, WHATS);
    }

    private void pairs() {
        Due due = a -> {
            if (nobody(a[0]) || nobody(a[1]) || noDoor(a[2]) || a[0] == a[1]) {
                return -1;
            }
            return roomOf(a[0]) == roomOf(a[1]) && isOf(a[2], roomOf(a[0])) ? 0 : -3;
        };
        int[] more = {LOW, -1, 0, 1, 4, 5, 6, HIGH};
        each("order", LOOK, due, more, more, DOORS);
        each("echo", LOOK, due, more, more, DOORS);
        each("two", LOOK, due, more, more, DOORS);
    }

    private void rows() {
        each("who", LOOK, a -> first(noDoor(a[0]), -1), DOORS);
        each("whatIs", LOOK, a -> first(noDoor(a[0]), -1, not(a[1], 1), -2), DOORS, WHATS);
        each("row", ACT, a -> first(a[0] < 0, -4, a[0] > 99 || full, -6), HUNDRED);
        each("judge", ACT, a -> 0);
        each("clear", ACT, a -> 0);
    }

    private void rest() {
        each("draught", LOOK, a -> first(noDoor(a[0]), -1, a[1] < 0 || a[3] < 0 || a[2] < 2, -4,
                a[1] > 7 || a[2] > 20 || a[3] > 99, -6, not(a[4], 1), -2),
                new int[] {-1, 0, 8, 9}, new int[] {LOW, -1, 0, 7, 8, HIGH}, new int[] {LOW, 0, 1, 2, 20, 21, HIGH},
                HUNDRED, new int[] {-1, 0, 1, 2});
        each("mean", LOOK, a -> first(not(a[0], 1), -2), PARTS);
        each("lots", LOOK, a -> first(a[0] < 1, -4, a[0] > 20, -6, not(a[2], 1), -2, people == 0 || doors == 0, -3),
                new int[] {LOW, -1, 0, 1, 20, 21, HIGH}, new int[] {LOW, -1, 0, HIGH}, PARTS);
        each("image", ACT, a -> 0);
        each("on", ACT, a -> first(!imaged, -3));
        each("count", LOOK, a -> 0, new int[] {LOW, LOW + 9, LOW + 20, -1, 0, 7, 8, 9, 10, 11, 16, 17, HIGH});
    }
}
