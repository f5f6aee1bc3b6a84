/** Promises 25, 26 and 30: two people at one door. */
public final class PairTest {
    private static final Check CHECK = new Check();

    public static void main(String[] args) {
        order();
        echo();
        two();
        twoOfAllPairs();
        refusals();
        CHECK.end();
    }

    private static void order() {
        DoorKeepsQuarrel x = CHECK.house("dd001;p50;p30;q0400;");
        // 0 first: 15, then 15 by 2 is 7, 2 left; 1 first: 15, then 13 by 2 is 6, 1 left.
        CHECK.due("the milder first", x.order(0, 1, 0), 1);
        CHECK.due("the milder first", x.order(1, 0, 0), 1);
        x = CHECK.house("dd001;p50;p50;q0400;");
        CHECK.due("alike: the lesser", x.order(0, 1, 0), 0);
        CHECK.due("alike: the lesser", x.order(1, 0, 0), 0);
        CHECK.due("nothing changes", x.person(0, 1), 0);
        CHECK.due("nothing changes", x.door(0, 4), 40);
    }

    private static void echo() {
        DoorKeepsQuarrel x = CHECK.house("dd001;p50;p30;q0400;");
        CHECK.due("2 less 15", x.echo(0, 1, 0), -13);
        CHECK.due("1 less 15", x.echo(1, 0, 0), -14);
        x.airs(0);
        x.moods(0, 80);
        // He says 45: 22 given, 17 left; else 0.
        CHECK.due("17 less 0", x.echo(0, 1, 0), 17);
        CHECK.due("nothing changes", x.person(1, 2), 0);
    }

    private static void two() {
        DoorKeepsQuarrel x = CHECK.house("dd001;p50;p90;q0090;");
        CHECK.due("both", x.two(0, 1, 0), 11);
        x.quarrels(0, 40, 0);
        CHECK.due("neither", x.two(0, 1, 0), 0);
        CHECK.due("nothing changes", x.person(1, 1), 0);
        CHECK.due("nothing changes", x.door(0, 4), 40);
    }

    private static void twoOfAllPairs() {
        // An oak that gives 9: who has mood 0 has 4 then, as if 0: neither is better off.
        DoorKeepsQuarrel x = CHECK.house("do001;p90;p90;q0090;");
        CHECK.due("alike: the first pair", x.two(0, 1, 0), 0);
        // Mood 99 stays at 94 whatever is given: he opens; he says 58 then, which is too much for 1.
        x.moods(0, 99);
        CHECK.due("the first alone", x.two(0, 1, 0), 10);
        // The other way about 0 does not gain, and 1 opens.
        x.moods(0, 0);
        x.moods(1, 99);
        CHECK.due("the other alone", x.two(0, 1, 0), 1);
        x.moods(0, 99);
        CHECK.due("both", x.two(0, 1, 0), 11);
        // Behind the first, who leaves much in a cold one, the other had better not.
        x.airs(0);
        x.moods(1, 0);
        CHECK.due("the first leaves too much", x.two(0, 1, 0), 10);
        CHECK.due("ahead of him he may", x.two(1, 0, 0), 11);
    }

    private static void refusals() {
        DoorKeepsQuarrel x = CHECK.house("dd001;dd012;p50;p50;p52;");
        int[][] wrong = {{0, 0, 0, -1}, {0, 3, 0, -1}, {-1, 0, 0, -1}, {0, 1, 2, -1}, {0, 1, -1, -1},
            {0, 2, 2, -1}, {2, 2, 0, -1}, {0, 2, 0, -3}, {0, 2, 1, -3}, {0, 1, 1, -3}};
        for (int i = 0; i < wrong.length; i++) {
            int[] w = wrong[i];
            CHECK.due("order " + i, x.order(w[0], w[1], w[2]), w[3]);
            CHECK.due("two " + i, x.two(w[0], w[1], w[2]), w[3]);
            CHECK.due("echo " + i, x.echo(w[0], w[1], w[2]), 1000000000 - w[3]);
        }
        CHECK.due("counted -1", x.count(11), 21);
        CHECK.due("counted -3", x.count(13), 9);
    }
}
