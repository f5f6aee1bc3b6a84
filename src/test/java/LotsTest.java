import java.math.BigInteger;

/** Promise 38: days by lot. */
public final class LotsTest {
    private static final Check CHECK = new Check();
    private static final BigInteger TIMES = BigInteger.valueOf(1664525);
    private static final BigInteger MORE = BigInteger.valueOf(1013904223);
    private static final BigInteger INTS = BigInteger.ONE.shiftLeft(32);
    private static final BigInteger WITHOUT_SIGN = BigInteger.ONE.shiftLeft(31);
    private static final String SOME = "dd001;do012;ds320;dg401;p50;p31;p92;q0400;q1991;";
    private static final String FULL = "dd001;do012;dc223;ds334;dg430;db113;dd905;do026;dc006;p50;p30;p94;p06;p12;p25;";

    private final String told;
    private BigInteger z;
    private int heat = 0;
    private int mood = 0;

    private LotsTest(String told, int seed) {
        this.told = told;
        this.z = BigInteger.valueOf(seed);
    }

    public static void main(String[] args) {
        oneAtOneDoor();
        oneDay();
        seedsThatWrapAround();
        drawsAtTheirEdges();
        drawsGoOnOverDays();
        aFullHouse();
        refusals();
        CHECK.end();
    }

    private static void oneAtOneDoor() {
        // Whatever is drawn, he opens it 12 times a day.
        DoorKeepsQuarrel x = CHECK.house("do001;p90;q0400;");
        x.image();
        for (int i = 0; i < 12; i++) {
            x.opens(0, 0);
        }
        int heat = x.hours(1);
        int mood = x.person(0, 2);
        x.on();
        for (int n = 1; n <= 20; n++) {
            CHECK.due("heat of " + n + " days", x.lots(n, 77 * n, 0), (long) n * heat);
            CHECK.due("mood of " + n + " days", x.lots(n, -n, 1), (long) n * mood);
        }
        CHECK.due("nothing changes", x.count(3), 40);
        CHECK.due("nor the hour", x.count(2), 0);
        CHECK.due("nor he", x.person(0, 2), 0);
    }

    /** None can open the only door, so that the hour alone is left of a day. */
    private static void oneDay() {
        DoorKeepsQuarrel x = CHECK.house("do012;p90;p03;q0400;");
        x.moods(0, 2);
        x.moods(1, 9);
        CHECK.due("heat", x.lots(1, 5, 0), 39);
        CHECK.due("moods", x.lots(1, 5, 1), 6);
        CHECK.due("each from now: heat", x.lots(20, 5, 0), 20 * 39);
        CHECK.due("each from now: moods", x.lots(20, 5, 1), 20 * 6);
    }

    // ---- the same days really lived, each on an object of its own, by numbers without end

    private int draw(int below) {
        z = z.multiply(TIMES).add(MORE).mod(INTS);
        return z.mod(WITHOUT_SIGN).divide(BigInteger.valueOf(256)).mod(BigInteger.valueOf(below)).intValue();
    }

    private void day() {
        DoorKeepsQuarrel x = CHECK.house(told);
        for (int i = 0; i < 12; i++) {
            int person = draw(x.count(1));
            x.opens(person, draw(x.count(0)));
        }
        heat += x.hours(1);
        mood += x.count(4);
    }

    private static void lived(String told, int days, int seed) {
        LotsTest lived = new LotsTest(told, seed);
        for (int i = 0; i < days; i++) {
            lived.day();
        }
        DoorKeepsQuarrel x = CHECK.house(told);
        CHECK.due("heat of " + days + " days with " + seed, x.lots(days, seed, 0), lived.heat);
        CHECK.due("moods of " + days + " days with " + seed, x.lots(days, seed, 1), lived.mood);
    }

    private static boolean wraps(int seed) {
        return BigInteger.valueOf(seed).multiply(TIMES).add(MORE).bitLength() > 31;
    }

    private static void seedsThatWrapAround() {
        // By 681 the greatest int is not passed, by 682 it is; by -1899 the least is not, by -1900 it is.
        CHECK.so("681 does not wrap", !wraps(681));
        CHECK.so("682 wraps", wraps(682));
        CHECK.so("-1899 does not wrap", !wraps(-1899));
        CHECK.so("-1900 wraps", wraps(-1900));
        for (int seed : new int[] {681, 682, -1899, -1900, Integer.MAX_VALUE, Integer.MIN_VALUE, Integer.MAX_VALUE - 1,
            Integer.MIN_VALUE + 1, 1 << 30, -1 << 30}) {
            lived(SOME, 1, seed);
            lived(SOME, 4, seed);
        }
    }

    /** Seeds by which the first draw is of just this number: without its sign, by 256, at the cut. */
    private static void drawsAtTheirEdges() {
        for (int first : new int[] {0, 1, 255, 256, 257, -1, -256, -257, Integer.MAX_VALUE, Integer.MIN_VALUE,
            Integer.MIN_VALUE + 255, Integer.MIN_VALUE + 256, Integer.MAX_VALUE - 255, Integer.MAX_VALUE - 256}) {
            int seed = BigInteger.valueOf(first).subtract(MORE).multiply(TIMES.modInverse(INTS)).intValue();
            CHECK.due("the seed for " + first, seed * 1664525 + 1013904223, first);
            lived(SOME, 1, seed);
            lived(FULL, 1, seed);
        }
    }

    private static void drawsGoOnOverDays() {
        for (int seed : new int[] {0, 1, 7, -1, 123456789, -987654321}) {
            for (int days = 1; days <= 20; days++) {
                lived(SOME, days, seed);
            }
        }
    }

    private static void aFullHouse() {
        for (int seed : new int[] {0, 7, -7, 2000000000}) {
            lived(FULL, 1, seed);
            lived(FULL, 20, seed);
        }
    }

    private static void refusals() {
        DoorKeepsQuarrel x = new DoorKeepsQuarrel();
        CHECK.due("below", x.lots(0, 0, 2), -4);
        CHECK.due("above", x.lots(21, 0, 2), -6);
        CHECK.due("another what", x.lots(1, 0, 2), -2);
        CHECK.due("another what", x.lots(20, 0, -1), -2);
        CHECK.due("nobody, no doors", x.lots(1, 0, 0), -3);
        CHECK.more(x, "p00;");
        CHECK.due("no doors", x.lots(1, 0, 0), -3);
        DoorKeepsQuarrel nobody = CHECK.house("dd001;");
        CHECK.due("nobody", nobody.lots(1, 0, 1), -3);
        CHECK.due("nobody, counted", nobody.count(13), 1);
        nobody.image();
        CHECK.more(nobody, "p00;");
        CHECK.so("somebody", nobody.lots(1, 0, 1) >= 0);
        nobody.on();
        CHECK.due("nobody again", nobody.lots(1, 0, 1), -3);
        DoorKeepsQuarrel without = CHECK.house("p00;");
        without.image();
        CHECK.more(without, "dd001;");
        CHECK.so("a door", without.lots(1, 0, 1) >= 0);
        without.on();
        CHECK.due("no doors again", without.lots(1, 0, 1), -3);
        CHECK.due("counted -2", x.count(12), 2);
        CHECK.due("counted -3", x.count(13), 2);
        CHECK.due("counted -4", x.count(14), 1);
        CHECK.due("counted -6", x.count(16), 1);
    }
}
