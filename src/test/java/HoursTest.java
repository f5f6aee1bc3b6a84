/** Promises 13 to 15: in mind some hours on, the first hour, the hottest and the loudest door. */
public final class HoursTest {
    private static final Check CHECK = new Check();

    public static void main(String[] args) {
        doorThen();
        moodThen();
        cold();
        hottestAndLoudest();
        CHECK.end();
    }

    private static void doorThen() {
        DoorKeepsQuarrel x = CHECK.house("dd001;dg301;p00;p00;q0051;q1120;");
        int[] heat = {5, 3, 1, 0, 0};
        int[] voice = {1, 1, 1, 9, 9};
        for (int n = 0; n < heat.length; n++) {
            CHECK.due("doorThen(0, " + n + ", 0)", x.doorThen(0, n, 0), heat[n]);
            CHECK.due("doorThen(0, " + n + ", 1)", x.doorThen(0, n, 1), voice[n]);
        }
        CHECK.due("a glass one", x.doorThen(1, 2, 0), 2);
        CHECK.due("60 hours", x.doorThen(1, 60, 1), 9);
        CHECK.due("nothing changes", x.door(0, 4), 5);
        CHECK.due("nor the hour", x.count(2), 0);
        CHECK.due("no such door", x.doorThen(2, -1, 2), -1);
        CHECK.due("below", x.doorThen(0, -1, 2), -4);
        CHECK.due("above", x.doorThen(0, 61, 2), -6);
        CHECK.due("another what", x.doorThen(0, 60, 2), -2);
        CHECK.due("another what", x.doorThen(0, 0, -1), -2);
    }

    private static void moodThen() {
        DoorKeepsQuarrel x = CHECK.house("p00;");
        x.moods(0, 7);
        int[] due = {7, 4, 1, 0, 0};
        for (int n = 0; n < due.length; n++) {
            CHECK.due("moodThen(0, " + n + ")", x.moodThen(0, n), due[n]);
        }
        CHECK.due("nothing changes", x.person(0, 2), 7);
        CHECK.due("nobody", x.moodThen(1, -1), -1);
        CHECK.due("below", x.moodThen(0, -1), -4);
        CHECK.due("60", x.moodThen(0, 60), 0);
        CHECK.due("above", x.moodThen(0, 61), -6);
    }

    private static void cold() {
        CHECK.due("no doors are cold", new DoorKeepsQuarrel().first(0), 0);
        DoorKeepsQuarrel x = CHECK.house("dd001;do001;p00;q0050;");
        CHECK.due("5 by 2", x.first(0), 3);
        x.quarrels(1, 4, 0);
        CHECK.due("the last one counts", x.first(0), 4);
        x.quarrels(0, 99, 0);
        CHECK.due("99 by 2", x.first(0), 50);
        x.quarrels(1, 60, 0);
        CHECK.due("60 by 1", x.first(0), 60);
        x.quarrels(1, 61, 0);
        CHECK.due("61 by 1", x.first(0), -9);
        x.airs(1);
        x.turn(0, 3, 0);
        CHECK.due("a slammed one never", x.first(0), -9);
        x.airs(0);
        CHECK.due("at once", x.first(0), 0);
    }

    private static void hottestAndLoudest() {
        DoorKeepsQuarrel x = new DoorKeepsQuarrel();
        CHECK.due("no hottest", x.first(1), -9);
        CHECK.due("no loudest", x.first(2), -9);
        CHECK.due("another what", x.first(3), -2);
        CHECK.due("another what", x.first(-1), -2);
        CHECK.more(x, "dc001;dd001;do001;dd001;p00;");
        CHECK.due("all alike: the least", x.first(1), 0);
        CHECK.due("all alike: the least", x.first(2), 0);
        CHECK.more(x, "q0900;q1800;q2400;q3800;");
        CHECK.due("gives most, the least of them", x.first(1), 1);
        CHECK.due("of most heat", x.first(2), 0);
        x.quarrels(2, 41, 0);
        CHECK.due("an oak gives all", x.first(1), 2);
        x.airs(0);
        CHECK.due("of two alike the least", x.first(2), 1);
    }
}
