/** Promise 38: days by lot. */
public final class LotsTest {
    private static final Check CHECK = new Check();

    public static void main(String[] args) {
        oneAtOneDoor();
        drawsGoOnOverDays();
        refusals();
        CHECK.end();
    }

    private static void oneAtOneDoor() {
        // Whatever is drawn, he opens it 12 times a day.
        DoorKeepsQuarrel x = CHECK.house("do001;p90;q0400;");
        x.image();
        for (int i = 0; i < 12; i++) {
            x.opens(0, 0);
        }
        int heat = x.hours(1);
        int mood = x.person(0, 2);
        x.on();
        for (int n = 1; n <= 20; n++) {
            CHECK.due("heat of " + n + " days", x.lots(n, 77 * n, 0), (long) n * heat);
            CHECK.due("mood of " + n + " days", x.lots(n, -n, 1), (long) n * mood);
        }
        CHECK.due("nothing changes", x.count(3), 40);
        CHECK.due("nor the hour", x.count(2), 0);
        CHECK.due("nor he", x.person(0, 2), 0);
    }

    private static int below(int z, int m) {
        return (z & 0x7fffffff) / 256 % m;
    }

    /** The same days really lived on the object itself, from an image. */
    private static void drawsGoOnOverDays() {
        for (int seed : new int[] {0, 1, 7, -1, Integer.MIN_VALUE, Integer.MAX_VALUE, 123456789}) {
            DoorKeepsQuarrel x = CHECK.house("dd001;do012;ds320;dg401;p50;p31;p92;q0400;q1991;");
            x.image();
            int z = seed;
            int heat = 0;
            int mood = 0;
            for (int day = 0; day < 3; day++) {
                x.on();
                for (int i = 0; i < 12; i++) {
                    z = z * 1664525 + 1013904223;
                    int person = below(z, 3);
                    z = z * 1664525 + 1013904223;
                    x.opens(person, below(z, 4));
                }
                heat += x.hours(1);
                mood += x.count(4);
            }
            x.on();
            CHECK.due("heat with " + seed, x.lots(3, seed, 0), heat);
            CHECK.due("moods with " + seed, x.lots(3, seed, 1), mood);
        }
    }

    private static void refusals() {
        DoorKeepsQuarrel x = new DoorKeepsQuarrel();
        CHECK.due("below", x.lots(0, 0, 2), -4);
        CHECK.due("above", x.lots(21, 0, 2), -6);
        CHECK.due("another what", x.lots(1, 0, 2), -2);
        CHECK.due("another what", x.lots(20, 0, -1), -2);
        CHECK.due("nobody, no doors", x.lots(1, 0, 0), -3);
        CHECK.more(x, "p00;");
        CHECK.due("no doors", x.lots(1, 0, 0), -3);
        CHECK.due("nobody", CHECK.house("dd001;").lots(1, 0, 1), -3);
    }
}
