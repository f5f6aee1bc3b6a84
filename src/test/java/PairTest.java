/** Promises 25, 26 and 30: two people at one door. */
public final class PairTest {
    private static final Check CHECK = new Check();
    private static final String SIX_AT_ONE_DOOR = "dd301;p50;p30;p90;p00;p50;p70;";

    public static void main(String[] args) {
        order();
        echo();
        two();
        twoOfAllPairs();
        alikeButNotTheFirst();
        asLived();
        refusals();
        CHECK.end();
    }

    private static void order() {
        DoorKeepsQuarrel x = CHECK.house("dd001;p50;p30;q0400;");
        // 0 first: 15, then 15 by 2 is 7, 2 left; 1 first: 15, then 13 by 2 is 6, 1 left.
        CHECK.due("the milder first", x.order(0, 1, 0), 1);
        CHECK.due("the milder first", x.order(1, 0, 0), 1);
        x = CHECK.house("dd001;p50;p50;q0400;");
        CHECK.due("alike: the lesser", x.order(0, 1, 0), 0);
        CHECK.due("alike: the lesser", x.order(1, 0, 0), 0);
        CHECK.due("nothing changes", x.person(0, 1), 0);
        CHECK.due("nothing changes", x.door(0, 4), 40);
    }

    private static void echo() {
        DoorKeepsQuarrel x = CHECK.house("dd001;p50;p30;q0400;");
        CHECK.due("2 less 15", x.echo(0, 1, 0), -13);
        CHECK.due("1 less 15", x.echo(1, 0, 0), -14);
        x.airs(0);
        x.moods(0, 80);
        // He says 45: 22 given, 17 left; else 0.
        CHECK.due("17 less 0", x.echo(0, 1, 0), 17);
        CHECK.due("nothing changes", x.person(1, 2), 0);
    }

    private static void two() {
        DoorKeepsQuarrel x = CHECK.house("dd001;p50;p90;q0090;");
        CHECK.due("both", x.two(0, 1, 0), 11);
        x.quarrels(0, 40, 0);
        CHECK.due("neither", x.two(0, 1, 0), 0);
        CHECK.due("nothing changes", x.person(1, 1), 0);
        CHECK.due("nothing changes", x.door(0, 4), 40);
    }

    private static void twoOfAllPairs() {
        // An oak that gives 9: who has mood 0 has 4 then, as if 0: neither is better off.
        DoorKeepsQuarrel x = CHECK.house("do001;p90;p90;q0090;");
        CHECK.due("alike: the first pair", x.two(0, 1, 0), 0);
        // Mood 99 stays at 94 whatever is given: he opens; he says 58 then, which is too much for 1.
        x.moods(0, 99);
        CHECK.due("the first alone", x.two(0, 1, 0), 10);
        // The other way about 0 does not gain, and 1 opens.
        x.moods(0, 0);
        x.moods(1, 99);
        CHECK.due("the other alone", x.two(0, 1, 0), 1);
        x.moods(0, 99);
        CHECK.due("both", x.two(0, 1, 0), 11);
        // Behind the first, who leaves much in a cold one, the other had better not.
        x.airs(0);
        x.moods(1, 0);
        CHECK.due("the first leaves too much", x.two(0, 1, 0), 10);
        CHECK.due("ahead of him he may", x.two(1, 0, 0), 11);
    }

    private static void alikeButNotTheFirst() {
        DoorKeepsQuarrel x = CHECK.house("dc001;p90;p30;p50;p50;p70;p20;");
        CHECK.due("alike: the lesser of 2 and 3", x.order(2, 3, 0), 2);
        CHECK.due("alike: the lesser of 2 and 3", x.order(3, 2, 0), 2);
        CHECK.due("alike: the lesser of the last two", x.order(5, 4, 0), 4);
    }

    // ---- what is thought of two, set beside what becomes of them when they really open it

    private static void asLived() {
        int[] moods = {0, 4, 50, 99};
        for (int kind = 0; kind < 6; kind++) {
            for (int heat : new int[] {0, 1, 8, 9, 10, 40, 99}) {
                for (int moodOfA : moods) {
                    for (int moodOfB : moods) {
                        pairsAsLived(kind, heat, moodOfA, moodOfB);
                    }
                }
            }
        }
    }

    private static void pairsAsLived(int kind, int heat, int moodOfA, int moodOfB) {
        for (int a = 0; a < 6; a++) {
            for (int b = 0; b < 6; b++) {
                if (a != b) {
                    DoorKeepsQuarrel x = CHECK.house(SIX_AT_ONE_DOOR);
                    x.turn(0, kind, 3);
                    x.quarrels(0, heat, 0);
                    x.moods(a, moodOfA);
                    x.moods(b, moodOfB);
                    x.image();
                    pairAsLived(x, a, b, kind + " of heat " + heat + ", moods " + moodOfA + ", " + moodOfB);
                }
            }
        }
    }

    /** The mood of one behind all who open the door, one behind the other. */
    private static int moodBehind(DoorKeepsQuarrel x, int whose, int... who) {
        for (int p : who) {
            x.opens(p, 0);
        }
        int mood = x.person(whose, 2);
        x.on();
        return mood;
    }

    private static void pairAsLived(DoorKeepsQuarrel x, int a, int b, String told) {
        String pair = "(" + a + ", " + b + ", 0) at kind " + told;
        int aFirst = moodBehind(x, a, a, b) + moodBehind(x, b, a, b);
        int bFirst = moodBehind(x, a, b, a) + moodBehind(x, b, b, a);
        int better = aFirst < bFirst || aFirst == bFirst && a < b ? a : b;
        CHECK.due("order" + pair, x.order(a, b, 0), better);
        CHECK.due("echo" + pair, x.echo(a, b, 0), moodBehind(x, b, a, b) - moodBehind(x, b, b));
        CHECK.due("two" + pair, x.two(a, b, 0), pairOfWishes(x, a, b));
    }

    private static int pairOfWishes(DoorKeepsQuarrel x, int a, int b) {
        int[][] opening = {{}, {b}, {a}, {a, b}};
        int[] ofA = new int[4];
        int[] ofB = new int[4];
        for (int i = 0; i < 4; i++) {
            ofA[i] = moodBehind(x, a, opening[i]) - 4 * (i / 2);
            ofB[i] = moodBehind(x, b, opening[i]) - 4 * (i % 2);
        }
        for (int i = 0; i < 4; i++) {
            if (ofA[i] <= ofA[i ^ 2] && ofB[i] <= ofB[i ^ 1]) {
                return 10 * (i / 2) + i % 2;
            }
        }
        return -9;
    }

    private static void refusals() {
        DoorKeepsQuarrel x = CHECK.house("dd001;dd012;p50;p50;p52;");
        int[][] wrong = {{0, 0, 0, -1}, {0, 3, 0, -1}, {-1, 0, 0, -1}, {0, 1, 2, -1}, {0, 1, -1, -1},
            {0, 2, 2, -1}, {2, 2, 0, -1}, {0, 2, 0, -3}, {0, 2, 1, -3}, {0, 1, 1, -3}};
        for (int i = 0; i < wrong.length; i++) {
            int[] w = wrong[i];
            CHECK.due("order " + i, x.order(w[0], w[1], w[2]), w[3]);
            CHECK.due("two " + i, x.two(w[0], w[1], w[2]), w[3]);
            CHECK.due("echo " + i, x.echo(w[0], w[1], w[2]), 1000000000 - w[3]);
        }
        CHECK.due("counted -1", x.count(11), 21);
        CHECK.due("counted -3", x.count(13), 9);
    }
}
