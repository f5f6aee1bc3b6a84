/** "==== II.": of each question what is answered where there is none, of several alike, in an empty and in a full house. */
public final class NoneAndAlikeTest {
    private static final Check CHECK = new Check();
    private static final String NINE = "do001;do012;do023;do034;do045;do056;do001;do012;do023;";
    private static final String SIX = "p00;p10;p20;p30;p40;p50;";

    public static void main(String[] args) {
        inMind();
        cold();
        hottest();
        loudest();
        wayAndFewest();
        wayOfSeveral();
        near();
        cutOff();
        goes();
        air();
        shut();
        waits();
        walks();
        order();
        echo();
        voicesAndSilent();
        mostHeard();
        worst();
        meet();
        two();
        draught();
        mean();
        who();
        whatItIs();
        judged();
        image();
        CHECK.end();
    }

    /** Nine oak doors in a row of rooms, three of them twofold, and six people in room 0. */
    private static DoorKeepsQuarrel full() {
        DoorKeepsQuarrel x = CHECK.house(NINE + SIX);
        for (int d = 0; d < 9; d++) {
            x.quarrels(d, 10 + d, 5 - d % 6);
        }
        return x;
    }

    private static void inMind() {
        DoorKeepsQuarrel x = full();
        x.quarrels(8, 60, 5);
        x.moods(5, 99);
        CHECK.due("0 hours: now", x.doorThen(8, 0, 0), 60);
        CHECK.due("0 hours: now", x.doorThen(8, 0, 1), 5);
        CHECK.due("59 hours", x.doorThen(8, 59, 0), 1);
        CHECK.due("59 hours", x.doorThen(8, 59, 1), 5);
        CHECK.due("60 hours", x.doorThen(8, 60, 0), 0);
        CHECK.due("60 hours: none", x.doorThen(8, 60, 1), 9);
        x.quarrels(8, 61, 5);
        CHECK.due("60 hours: a voice still", x.doorThen(8, 60, 1), 5);
        CHECK.due("0 hours: now", x.moodThen(5, 0), 99);
        CHECK.due("60 hours", x.moodThen(5, 60), 0);
        x.airs(0);
        CHECK.due("no voice now, none then", x.doorThen(0, 0, 1), 9);
        CHECK.due("no heat now, none then", x.doorThen(0, 60, 0), 0);
    }

    private static void cold() {
        CHECK.due("no doors", new DoorKeepsQuarrel().first(0), 0);
        DoorKeepsQuarrel x = CHECK.house(NINE + SIX);
        CHECK.due("nine cold ones", x.first(0), 0);
        x.quarrels(8, 1, 0);
        CHECK.due("the last of nine", x.first(0), 1);
        x.quarrels(8, 60, 0);
        CHECK.due("60 hours", x.first(0), 60);
        x.quarrels(8, 61, 0);
        CHECK.due("61 hours", x.first(0), -9);
        x.turn(8, 0, 0);
        CHECK.due("31 hours by 2", x.first(0), 31);
        x.turn(8, 3, 0);
        x.quarrels(8, 1, 0);
        CHECK.due("never", x.first(0), -9);
    }

    private static void hottest() {
        CHECK.due("no doors", new DoorKeepsQuarrel().first(1), -9);
        DoorKeepsQuarrel x = CHECK.house(NINE + SIX);
        CHECK.due("all give nothing: the least", x.first(1), 0);
        x.quarrels(8, 1, 0);
        CHECK.due("the last", x.first(1), 8);
        x.quarrels(3, 1, 0);
        CHECK.due("of two the least", x.first(1), 3);
        x.turn(3, 0, 0);
        CHECK.due("half of 1 is none", x.first(1), 8);
        x.turn(0, 3, 9);
        CHECK.due("a figure alone gives nothing", x.first(1), 8);
        x.quarrels(0, 1, 0);
        CHECK.due("but above 0 it does", x.first(1), 0);
    }

    private static void loudest() {
        CHECK.due("no doors", new DoorKeepsQuarrel().first(2), -9);
        DoorKeepsQuarrel x = CHECK.house(NINE + SIX);
        CHECK.due("no heat: the least", x.first(2), 0);
        x.turn(8, 2, 0);
        x.quarrels(8, 1, 0);
        CHECK.due("though it gives none", x.first(2), 8);
        x.quarrels(7, 1, 0);
        CHECK.due("of two the least", x.first(2), 7);
        x.quarrels(8, 99, 0);
        CHECK.due("of most heat", x.first(2), 8);
        x.quarrels(1, 99, 0);
        CHECK.due("of two the least", x.first(2), 1);
    }

    private static void wayDue(DoorKeepsQuarrel x, int room, int given, int doors, int first, int fewest) {
        CHECK.due("given to " + room, x.way(0, room, 0), given);
        CHECK.due("doors to " + room, x.way(0, room, 1), doors);
        CHECK.due("first door to " + room, x.way(0, room, 2), first);
        CHECK.due("fewest to " + room, x.fewest(0, room), fewest);
    }

    private static void wayAndFewest() {
        DoorKeepsQuarrel x = CHECK.house("p00;");
        wayDue(x, 0, 0, 0, -9, 0);
        for (int room = 1; room <= 6; room++) {
            wayDue(x, room, -9, -9, -9, -9);
        }
        x = full();
        wayDue(x, 0, 0, 0, -9, 0);
        wayDue(x, 6, 10 + 11 + 12 + 13 + 14 + 15, 6, 0, 6);
        x.quarrels(0, 17, 0);
        wayDue(x, 6, 16 + 11 + 12 + 13 + 14 + 15, 6, 6, 6);
        for (int d = 0; d < 9; d++) {
            x.turn(d, 3, 9);
            x.quarrels(d, 99, 0);
        }
        wayDue(x, 6, 6 * 108, 6, 0, 6);
        x = CHECK.house("dd012;p00;p02;");
        wayDue(x, 1, -9, -9, -9, -9);
        CHECK.due("no way from there", x.way(1, 0, 0), -9);
        // No more doors than rooms are ever on a way, but what is given may ask for all of them.
        x = CHECK.house("do006;dc006;do001;do012;do023;do034;do045;do056;p00;q0990;");
        wayDue(x, 6, 0, 1, 1, 1);
        x.turn(1, 1, 0);
        x.quarrels(1, 1, 0);
        wayDue(x, 6, 0, 6, 2, 1);
    }

    private static void wayOfSeveral() {
        DoorKeepsQuarrel x = CHECK.house("dd016;dd001;dd002;dd026;dd006;dd006;p00;");
        wayDue(x, 6, 0, 1, 4, 1);
        x.quarrels(4, 2, 0);
        wayDue(x, 6, 0, 1, 5, 1);
        x.quarrels(5, 2, 0);
        wayDue(x, 6, 0, 2, 1, 1);
        x.quarrels(0, 2, 0);
        wayDue(x, 6, 0, 2, 2, 1);
        x.quarrels(2, 2, 0);
        wayDue(x, 6, 1, 1, 4, 1);
    }

    private static void near() {
        DoorKeepsQuarrel x = CHECK.house("p06;p00;");
        CHECK.due("no doors", x.near(0), 64);
        CHECK.due("no doors", x.near(1), 1);
        CHECK.due("all", full().near(5), 127);
        x = CHECK.house("dd001;dd065;p01;p05;p03;");
        CHECK.due("two", x.near(0), 3);
        CHECK.due("two others", x.near(1), 96);
        CHECK.due("alone", x.near(2), 8);
    }

    private static void cutOff() {
        CHECK.due("all", new DoorKeepsQuarrel().cutOff(), 127);
        CHECK.due("none", full().cutOff(), 0);
        CHECK.due("all but two", CHECK.house("dd060;p03;").cutOff(), 62);
    }

    private static void goes() {
        DoorKeepsQuarrel x = CHECK.house("p00;dd012;");
        x.moods(0, 99);
        CHECK.due("there", x.goes(0, 0), 99);
        CHECK.due("none", x.goes(0, 1), -9);
        x = CHECK.house("do001;do012;p00;");
        CHECK.due("0 at least each time", x.goes(0, 2), 0);
        x.moods(0, 9);
        CHECK.due("5 less twice, 0 at least", x.goes(0, 2), 0);
        x.moods(0, 11);
        CHECK.due("5 less twice", x.goes(0, 2), 1);
        x.quarrels(0, 99, 0);
        x.quarrels(1, 99, 0);
        CHECK.due("99 at most each time", x.goes(0, 2), 94);
        CHECK.due("he is here still", x.person(0, 1), 0);
    }

    private static void air() {
        DoorKeepsQuarrel x = CHECK.house("p00;");
        CHECK.due("there", x.air(0, 0), -9);
        CHECK.due("no way", x.air(0, 6), -9);
        x = CHECK.house("do001;do001;do001;dc001;p00;q0200;q1200;q2200;q3990;");
        CHECK.due("a curtain gives none already", x.air(0, 1), -9);
        x.turn(3, 1, 0);
        CHECK.due("any of them: the least", x.air(0, 1), 0);
        x.quarrels(2, 1, 0);
        CHECK.due("1 less is less, of several the least", x.air(0, 1), 0);
        x.airs(2);
        CHECK.due("not less than else", x.air(0, 1), -9);
        x = CHECK.house("do001;do012;do023;p00;q0050;q1060;q2060;");
        CHECK.due("of two alike the least", x.air(0, 3), 1);
        x.quarrels(2, 7, 0);
        CHECK.due("the last", x.air(0, 3), 2);
        x = full();
        CHECK.due("of nine", x.air(0, 6), 5);
    }

    private static void shut() {
        DoorKeepsQuarrel x = CHECK.house("p00;");
        CHECK.due("there", x.shut(0, 0), -9);
        CHECK.due("no way at all", x.shut(0, 6), -9);
        x = full();
        CHECK.due("each is twofold", x.shut(0, 3), -9);
        CHECK.due("of three the least", x.shut(0, 6), 3);
        CHECK.due("there", x.shut(0, 0), -9);
        x = CHECK.house("dd012;dd012;dd012;dd012;dd012;dd012;dd012;dd012;dd001;p00;");
        CHECK.due("the last of nine", x.shut(0, 2), 8);
    }

    private static void waits() {
        DoorKeepsQuarrel x = CHECK.house("do001;ds901;p00;q0600;q1990;");
        CHECK.due("there", x.pause(0, 0, 0), 0);
        CHECK.due("no way", x.pause(0, 2, 99), -9);
        CHECK.due("60 hours", x.pause(0, 1, 0), 60);
        CHECK.due("59 hours", x.pause(0, 1, 1), 59);
        CHECK.due("at once", x.pause(0, 1, 60), 0);
        x.quarrels(0, 61, 0);
        CHECK.due("61 hours", x.pause(0, 1, 0), -9);
        CHECK.due("60 hours", x.pause(0, 1, 1), 60);
        x = CHECK.house("ds101;p00;q0990;");
        CHECK.due("100 is given, 99 is the most", x.pause(0, 1, 99), -9);
        x.turn(0, 3, 0);
        CHECK.due("99 is given", x.pause(0, 1, 99), 0);
        CHECK.due("98 never", x.pause(0, 1, 98), -9);
    }

    private static void walks() {
        DoorKeepsQuarrel x = CHECK.house("dd001;do012;p50;");
        x.moods(0, 77);
        CHECK.due("no row: he can all", x.walk(0, 0), -9);
        CHECK.due("no row: mood as now", x.walk(0, 1), 77);
        x.row(99);
        CHECK.due("no such door", x.walk(0, 0), 0);
        CHECK.due("mood till then", x.walk(0, 1), 77);
        Check.rowOf(x, 1);
        CHECK.due("not of his room", x.walk(0, 0), 0);
        Check.rowOf(x, 0, 0, 0, 0, 0, 0, 0, 0, 0, 0, 0, 0, 0, 0, 0, 0);
        CHECK.due("16 of them", x.walk(0, 0), -9);
        CHECK.due("he is here still", x.person(0, 1), 0);
        Check.rowOf(x, 0, 0, 0, 0, 0, 0, 0, 0, 0, 0, 0, 0, 0, 0, 0, 2);
        CHECK.due("but the 16th", x.walk(0, 0), 15);
        CHECK.due("the row stays", x.count(6), 16);
    }

    private static void order() {
        DoorKeepsQuarrel x = full();
        CHECK.due("alike: the lesser", CHECK.house("dc001;p90;p00;").order(1, 0, 0), 0);
        CHECK.due("the last two: the milder first", x.order(5, 4, 0), 4);
        CHECK.due("the last two, asked the other way", x.order(4, 5, 6), 4);
        // He who is at 99 hears nothing more, so he had better go behind.
        x.airs(0);
        x.moods(0, 99);
        CHECK.due("the greater number first", x.order(0, 5, 0), 5);
    }

    private static void echo() {
        DoorKeepsQuarrel x = CHECK.house("dc001;do001;p90;p00;q1990;");
        CHECK.due("behind a curtain none", x.echo(0, 1, 0), 0);
        // 94, as 99 is given; behind him, who says 58, 53.
        CHECK.due("below 0", x.echo(0, 1, 1), -41);
        x.airs(1);
        // He leaves 9, of which 4 stay.
        CHECK.due("above 0", x.echo(0, 1, 1), 4);
        CHECK.due("0 at least both times", x.echo(1, 0, 1), 0);
    }

    private static void voicesAndSilent() {
        CHECK.due("no doors", new DoorKeepsQuarrel().voices(-1), 0);
        CHECK.due("no doors", CHECK.house("p00;").voices(0), 0);
        DoorKeepsQuarrel x = CHECK.house(NINE + SIX);
        CHECK.due("all silent", x.voices(-1), 511);
        CHECK.due("with a voice", x.count(5), 0);
        for (int d = 0; d < 9; d++) {
            x.quarrels(d, 1, 5);
        }
        CHECK.due("all his", x.voices(5), 511);
        CHECK.due("none silent", x.voices(-1), 0);
        CHECK.due("with a voice", x.count(5), 511);
        x.hours(1);
        CHECK.due("none any more", x.voices(5), 0);
        CHECK.due("all silent", x.voices(-1), 511);
    }

    private static void mostHeard() {
        CHECK.due("nobody", new DoorKeepsQuarrel().heard(0), -9);
        DoorKeepsQuarrel x = CHECK.house(NINE + SIX);
        CHECK.due("no voice", x.heard(0), -9);
        x.quarrels(8, 1, 5);
        CHECK.due("one door", x.heard(0), 5);
        x.quarrels(0, 99, 4);
        CHECK.due("of two the least", x.heard(0), 4);
        x.quarrels(1, 1, 5);
        CHECK.due("two doors", x.heard(0), 5);
    }

    private static void worst() {
        CHECK.due("nobody", new DoorKeepsQuarrel().heard(1), -9);
        DoorKeepsQuarrel x = CHECK.house(SIX);
        CHECK.due("all at their best: the least", x.heard(1), 0);
        x.moods(5, 1);
        CHECK.due("the last", x.heard(1), 5);
        x.moods(3, 1);
        CHECK.due("of two the least", x.heard(1), 3);
    }

    private static void meet() {
        DoorKeepsQuarrel x = new DoorKeepsQuarrel();
        CHECK.due("nobody: any room, the least", x.meet(0), 0);
        CHECK.due("nobody: nothing", x.meet(1), 0);
        CHECK.more(x, "p06;");
        CHECK.due("alone where he is", x.meet(0), 6);
        CHECK.due("for nothing", x.meet(1), 0);
        CHECK.more(x, "p05;");
        CHECK.due("none", x.meet(0), -9);
        CHECK.due("none", x.meet(1), -9);
        CHECK.more(x, "dd056;");
        CHECK.due("of two alike the least", x.meet(0), 5);
        x = full();
        CHECK.due("all are there", x.meet(0), 0);
        for (int p = 0; p < 6; p++) {
            x.stands(p, 6);
        }
        CHECK.due("all are there", x.meet(0), 6);
        x.stands(0, 5);
        CHECK.due("five stay", x.meet(0), 6);
        CHECK.due("one comes", x.meet(1), 15);
    }

    /** The first's wish does not hang on the second's, so that there is always such a pair. */
    private static void two() {
        DoorKeepsQuarrel x = CHECK.house("do001;p90;p90;");
        // 4 less than 0 for the first; the second hears 9, has 4 then, as if 0: no less than else.
        CHECK.due("the second may as well not", x.two(0, 1, 0), 10);
        x.quarrels(0, 8, 0);
        // The first has 3 then, as if -1, and says 13: too much for the second.
        CHECK.due("8 is not too much for the first", x.two(0, 1, 0), 10);
        x.moods(1, 99);
        CHECK.due("nothing is for who has 99", x.two(0, 1, 0), 11);
        x.moods(1, 0);
        x.quarrels(0, 9, 0);
        CHECK.due("9 is alike to both: the first pair", x.two(0, 1, 0), 0);
        x.quarrels(0, 10, 0);
        CHECK.due("10 is too much", x.two(0, 1, 0), 0);
        x.moods(1, 99);
        CHECK.due("but not for who has 99", x.two(0, 1, 0), 1);
    }

    private static void fraction(DoorKeepsQuarrel x, int[] a, long above, long below) {
        CHECK.due("above the line", x.draught(a[0], a[1], a[2], a[3], 0), above);
        CHECK.due("below the line", x.draught(a[0], a[1], a[2], a[3], 1), below);
    }

    private static void draught() {
        DoorKeepsQuarrel x = full();
        fraction(x, new int[] {8, 0, 2, 17}, 0, 1);
        fraction(x, new int[] {8, 0, 20, 18}, 1, 1);
        // One hour: 17, or 8 behind a draught.
        fraction(x, new int[] {8, 1, 2, 17}, 1, 1);
        fraction(x, new int[] {8, 1, 2, 16}, 1, 2);
        fraction(x, new int[] {8, 1, 20, 8}, 1, 20);
        fraction(x, new int[] {8, 1, 20, 7}, 0, 1);
        x.quarrels(8, 99, 0);
        fraction(x, new int[] {8, 7, 20, 91}, 1280000000L - 893871739L, 1280000000L);
        fraction(x, new int[] {8, 7, 20, 92}, 1, 1);
        fraction(x, new int[] {8, 7, 2, 0}, 25, 128);
        x.airs(8);
        fraction(x, new int[] {8, 7, 20, 0}, 1, 1);
        x.turn(8, 3, 9);
        fraction(x, new int[] {8, 7, 20, 0}, 1, 1);
        x.quarrels(8, 99, 0);
        fraction(x, new int[] {8, 0, 2, 99}, 0, 1);
        CHECK.due("of 8 behind the line", x.draught(8, 8, 2, 0, 1), 4000000000000000006L);
    }

    private static void mean() {
        DoorKeepsQuarrel x = new DoorKeepsQuarrel();
        CHECK.due("of none", x.mean(0), 0);
        CHECK.due("of none", x.mean(1), 1);
        x = CHECK.house(NINE + SIX);
        CHECK.due("of nine cold ones", x.mean(0), 0);
        CHECK.due("of nine cold ones", x.mean(1), 1);
        for (int d = 0; d < 9; d++) {
            x.quarrels(d, 99, 0);
        }
        CHECK.due("the most", x.mean(0), 99);
        CHECK.due("the most", x.mean(1), 1);
        x.quarrels(0, 98, 0);
        CHECK.due("890 by 9", x.mean(0), 890);
        CHECK.due("890 by 9", x.mean(1), 9);
        x.quarrels(0, 96, 0);
        CHECK.due("888 by 9", x.mean(0), 296);
        CHECK.due("888 by 9", x.mean(1), 3);
    }

    private static void who() {
        CHECK.due("nobody", CHECK.house("dd001;").who(0), 0);
        DoorKeepsQuarrel x = full();
        CHECK.due("no row: all", x.who(8), 63);
        for (int i = 0; i < 16; i++) {
            x.row(Math.max(0, 5 - i));
        }
        CHECK.due("16 of them: the last", x.who(8), 32);
        x.clear();
        for (int i = 0; i < 15; i++) {
            x.row(0);
        }
        CHECK.due("who says nothing", x.who(8), 1);
        x.row(1);
        CHECK.due("but the 16th", x.who(8), 0);
        Check.rowOf(x, 10);
        CHECK.due("nobody says 10", x.who(0), 0);
        CHECK.due("the row stays", x.count(6), 1);
    }

    private static void whatItIs() {
        DoorKeepsQuarrel x = CHECK.house(NINE + SIX);
        CHECK.due("no row: all kinds", x.whatIs(8, 0), 63);
        CHECK.due("no row: all figures", x.whatIs(8, 1), 1023);
        Check.rowOf(x, 0, 0, 0, 0, 0, 0, 0, 0, 0, 0, 0, 0, 0, 0, 0, 0);
        CHECK.due("a cold one is any kind", x.whatIs(8, 0), 63);
        CHECK.due("and any figure", x.whatIs(8, 1), 1023);
        x.clear();
        x.quarrels(8, 99, 0);
        for (int i = 0; i < 15; i++) {
            x.row(99 - i);
        }
        CHECK.due("oak", x.whatIs(8, 0), 2);
        x.row(85);
        CHECK.due("but the 16th", x.whatIs(8, 0), 0);
        CHECK.due("of no figure", x.whatIs(8, 1), 0);
        x.turn(8, 4, 0);
        Check.rowOf(x, 99, 88);
        CHECK.due("glass of the greatest figure", x.whatIs(8, 1), 512);
        Check.rowOf(x, 99, 97);
        CHECK.due("glass of the least figure", x.whatIs(8, 1), 1);
        CHECK.due("glass of 0 is as a door", x.whatIs(8, 0), 1 + 4 + 16);
    }

    private static void judged() {
        DoorKeepsQuarrel x = new DoorKeepsQuarrel();
        CHECK.due("no row", x.judge(), -9);
        x.row(0);
        CHECK.due("none there", x.judge(), 0);
        CHECK.due("the row has none then", x.count(6), 0);
        x = full();
        Check.rowOf(x, 10, 11, 12, 13, 14, 15, 16, 17, 18);
        CHECK.due("all nine", x.judge(), -9);
        CHECK.due("the row has none then", x.clear(), 0);
        Check.rowOf(x, 10, 11, 12, 13, 14, 15, 16, 17, 19);
        CHECK.due("but the last", x.judge(), 8);
        Check.rowOf(x, 10, 11, 12, 13, 14, 15, 16, 17, 18, 0, 0, 0, 0, 0, 0, 0);
        CHECK.due("no tenth", x.judge(), 9);
        x.turn(0, 3, 9);
        x.quarrels(0, 99, 0);
        x.row(99);
        CHECK.due("108 is more than a row can tell", x.judge(), 0);
    }

    private static void image() {
        DoorKeepsQuarrel x = new DoorKeepsQuarrel();
        CHECK.due("there is none", x.on(), -3);
        CHECK.due("of nothing", x.image(), 0);
        CHECK.more(x, NINE + SIX);
        CHECK.due("on", x.on(), 0);
        CHECK.due("no doors then", x.count(0), 0);
        CHECK.due("nobody then", x.count(1), 0);
        CHECK.due("no such door", x.door(0, 0), -1);
        CHECK.more(x, NINE + SIX);
        x.hours(5);
        CHECK.due("of a full house", x.image(), 5);
        CHECK.due("full still", Check.tell(x, "dd001;"), -2000);
        x.hours(60);
        CHECK.due("on", x.on(), 5);
        CHECK.due("on again", x.on(), 5);
        CHECK.due("nine doors", x.count(0), 9);
        CHECK.due("six people", x.count(1), 6);
    }
}
