/** Promises 31 and 32: draughts by odds, the mean. */
public final class FractionsTest {
    private static final Check CHECK = new Check();
    private static final long REFUSED = 4000000000000000000L;

    public static void main(String[] args) {
        draught();
        edges();
        refusals();
        mean();
        CHECK.end();
    }

    private static void due(DoorKeepsQuarrel x, int[] a, long above, long below) {
        String call = "draught(" + a[0] + ", " + a[1] + ", " + a[2] + ", " + a[3] + ", ";
        CHECK.due(call + "0)", x.draught(a[0], a[1], a[2], a[3], 0), above);
        CHECK.due(call + "1)", x.draught(a[0], a[1], a[2], a[3], 1), below);
    }

    private static void draught() {
        DoorKeepsQuarrel x = CHECK.house("do001;p00;q0090;");
        // Two hours: none 7; one ahead of the first 9, 4, 3, 2; ahead of the second 8, 4, 3; both 4, 3, 1, 0.
        due(x, new int[] {0, 2, 3, 7, 0}, 1, 1);
        due(x, new int[] {0, 2, 3, 6, 0}, 5, 9);
        due(x, new int[] {0, 2, 3, 2, 0}, 1, 3);
        due(x, new int[] {0, 2, 3, 1, 0}, 1, 9);
        due(x, new int[] {0, 2, 2, 2, 0}, 1, 2);
        CHECK.due("nothing changes", x.door(0, 4), 9);
    }

    private static void edges() {
        DoorKeepsQuarrel x = CHECK.house("ds901;p00;q0990;");
        due(x, new int[] {0, 0, 2, 99, 0}, 0, 1);
        due(x, new int[] {0, 7, 20, 8, 0}, 1, 1280000000);
        due(x, new int[] {0, 7, 20, 99, 0}, 1280000000 - 893871739, 1280000000);
        due(x, new int[] {0, 7, 2, 0, 0}, 1, 128);
        x.quarrels(0, 90, 0);
        due(x, new int[] {0, 0, 20, 99, 0}, 1, 1);
        due(x, new int[] {0, 0, 20, 98, 0}, 0, 1);
    }

    private static void refusals() {
        DoorKeepsQuarrel x = CHECK.house("do001;p00;q0090;");
        int[][] wrong = {{1, -1, 1, -1, 2, 1}, {-1, 8, 21, 100, 2, 1}, {0, -1, 21, 100, 2, 4},
            {0, 8, 1, 100, 2, 4}, {0, 8, 21, -1, 2, 4}, {0, 8, 2, 0, 2, 6}, {0, 0, 21, 0, 2, 6},
            {0, 0, 2, 100, 2, 6}, {0, 7, 20, 99, 2, 2}, {0, 0, 2, 0, -1, 2}};
        for (int i = 0; i < wrong.length; i++) {
            int[] w = wrong[i];
            CHECK.due("draught refused " + i, x.draught(w[0], w[1], w[2], w[3], w[4]), REFUSED + w[5]);
        }
        CHECK.due("-1", x.count(11), 2);
        CHECK.due("-2", x.count(12), 2);
        CHECK.due("-4", x.count(14), 3);
        CHECK.due("-6", x.count(16), 3);
    }

    private static void mean() {
        DoorKeepsQuarrel x = new DoorKeepsQuarrel();
        CHECK.due("of none", x.mean(0), 0);
        CHECK.due("of none", x.mean(1), 1);
        CHECK.due("another part", x.mean(2), REFUSED + 2);
        CHECK.due("another part", x.mean(-1), REFUSED + 2);
        CHECK.due("counted", x.count(12), 2);
        CHECK.more(x, "dd001;p00;q0130;");
        CHECK.due("of one", x.mean(0), 13);
        CHECK.due("of one", x.mean(1), 1);
        CHECK.more(x, "a0;dd001;dd001;dd001;");
        CHECK.due("0 by 1", x.mean(0), 0);
        CHECK.due("0 by 1", x.mean(1), 1);
        CHECK.more(x, "q0100;q1200;");
        CHECK.due("30 by 4", x.mean(0), 15);
        CHECK.due("30 by 4", x.mean(1), 2);
        CHECK.more(x, "q2010;");
        CHECK.due("31 by 4", x.mean(0), 31);
        CHECK.due("31 by 4", x.mean(1), 4);
    }
}
