/** Promises 4 to 12: doors and people, and what happens to them. */
public final class HouseTest {
    private static final Check CHECK = new Check();
    private static final int[] GIVES_OF_41 = {20, 41, 0, 44, 20, 22};
    private static final int[] KEEPS_OF_29 = {29, 29, 7, 32, 7, 32};
    private static final int[] HOUR_FROM_41 = {39, 40, 39, 41, 36, 41};

    public static void main(String[] args) {
        doors();
        people();
        kinds();
        opening();
        openingAtTheEdges();
        quarrels();
        airs();
        moodsAndStands();
        turns();
        hours();
        CHECK.end();
    }

    private static void doors() {
        DoorKeepsQuarrel x = CHECK.house("ds912;p03;q0330;");
        int[] due = {3, 9, 1, 2, 33, 0, 42};
        for (int what = 0; what < due.length; what++) {
            CHECK.due("door(0, " + what + ")", x.door(0, what), due[what]);
        }
        CHECK.due("door(0, 7)", x.door(0, 7), -2);
        CHECK.due("door(0, -1)", x.door(0, -1), -2);
        CHECK.due("door(1, 0)", x.door(1, 0), -1);
        CHECK.due("door(-1, 9)", x.door(-1, 9), -1);
    }

    private static void people() {
        DoorKeepsQuarrel x = CHECK.house("p75;");
        x.moods(0, 31);
        int[] due = {7, 5, 31, 22};
        for (int what = 0; what < due.length; what++) {
            CHECK.due("person(0, " + what + ")", x.person(0, what), due[what]);
        }
        CHECK.due("person(0, 4)", x.person(0, 4), -2);
        CHECK.due("person(0, -1)", x.person(0, -1), -2);
        CHECK.due("person(1, 0)", x.person(1, 0), -1);
        CHECK.due("person(-1, 9)", x.person(-1, 9), -1);
    }

    private static void kinds() {
        for (int kind = 0; kind < 6; kind++) {
            DoorKeepsQuarrel x = CHECK.house("dd001;p90;q0410;");
            CHECK.due("turn", x.turn(0, kind, 3), 0);
            CHECK.due("gives of kind " + kind, x.door(0, 6), GIVES_OF_41[kind]);
            CHECK.due("an hour of kind " + kind, x.hours(1), HOUR_FROM_41[kind]);
            x.airs(0);
            CHECK.due("cold, kind " + kind + " gives", x.door(0, 6), 0);
            x.moods(0, 40);
            CHECK.due("mood behind kind " + kind, x.opens(0, 0), 35);
            CHECK.due("kept by kind " + kind, x.door(0, 4), KEEPS_OF_29[kind]);
            CHECK.due("voice in kind " + kind, x.door(0, 5), 0);
        }
    }

    private static void opening() {
        DoorKeepsQuarrel x = CHECK.house("do001;p30;p40;q0210;");
        CHECK.due("opens", x.opens(1, 0), 16);
        CHECK.due("says half of 21 and 4", x.door(0, 4), 14);
        CHECK.due("his voice", x.door(0, 5), 1);
        CHECK.due("the other room", x.person(1, 1), 1);
        CHECK.due("the first stays", x.person(0, 1), 0);
        CHECK.due("back again", x.opens(1, 0), 25);
        CHECK.due("and said", x.door(0, 4), 19);
        CHECK.due("where he was", x.person(1, 1), 0);
        CHECK.due("not of his room", CHECK.house("dd012;p30;").opens(0, 0), -3);
        CHECK.due("no such door", x.opens(0, 1), -1);
        CHECK.due("nobody", x.opens(2, 0), -1);
    }

    private static void openingAtTheEdges() {
        DoorKeepsQuarrel x = CHECK.house("ds901;p90;q0990;");
        x.moods(0, 90);
        CHECK.due("gives above 99", x.door(0, 6), 108);
        CHECK.due("mood 99 at most", x.opens(0, 0), 94);
        CHECK.due("says 58 and 9", x.door(0, 4), 67);
        x = CHECK.house("dc001;p30;q0500;");
        CHECK.due("mood 0 at least", x.opens(0, 0), 0);
        CHECK.due("3 by 4 is none", x.door(0, 4), 0);
        CHECK.due("and no voice", x.door(0, 5), 9);
        x = CHECK.house("db401;p00;");
        x.opens(0, 0);
        CHECK.due("a figure alone is kept", x.door(0, 4), 4);
        CHECK.due("with his voice", x.door(0, 5), 0);
    }

    private static void quarrels() {
        DoorKeepsQuarrel x = CHECK.house("dd001;p56;p66;");
        CHECK.due("quarrels", x.quarrels(0, 99, 1), 0);
        CHECK.due("voice", x.door(0, 5), 1);
        CHECK.due("again", x.quarrels(0, 1, 0), 99);
        CHECK.due("voice then", x.door(0, 5), 0);
        CHECK.due("of 0", x.quarrels(0, 0, 1), 1);
        CHECK.due("no voice", x.door(0, 5), 9);
        CHECK.due("above", x.quarrels(0, 100, 1), -6);
        CHECK.due("below", x.quarrels(0, -1, 1), -4);
        CHECK.due("nobody first", x.quarrels(0, -1, 2), -1);
        CHECK.due("no door first", x.quarrels(1, 100, 0), -1);
    }

    private static void airs() {
        DoorKeepsQuarrel x = CHECK.house("dd001;ds001;p56;q0120;q1340;");
        CHECK.due("airs", x.airs(1), 34);
        CHECK.due("no heat", x.door(1, 4), 0);
        CHECK.due("no voice", x.door(1, 5), 9);
        CHECK.due("the other stays", x.door(0, 4), 12);
        CHECK.due("again", x.airs(1), 0);
        CHECK.due("no such door", x.airs(2), -1);
        CHECK.due("no such door", x.airs(-1), -1);
    }

    private static void moodsAndStands() {
        DoorKeepsQuarrel x = CHECK.house("p56;p60;");
        CHECK.due("moods", x.moods(1, 99), 0);
        CHECK.due("moods back", x.moods(1, 0), 99);
        CHECK.due("moods above", x.moods(1, 100), -6);
        CHECK.due("moods below", x.moods(1, -1), -4);
        CHECK.due("moods of nobody", x.moods(2, -1), -1);
        CHECK.due("stands", x.stands(0, 0), 6);
        CHECK.due("stands", x.stands(0, 6), 0);
        CHECK.due("stands in no room", x.stands(0, 7), -1);
        CHECK.due("stands in no room", x.stands(0, -1), -1);
        CHECK.due("nobody stands", x.stands(2, 0), -1);
        CHECK.due("he is there", x.person(0, 1), 6);
    }

    private static void turns() {
        DoorKeepsQuarrel x = CHECK.house("db701;p00;q0500;");
        CHECK.due("turn", x.turn(0, 1, 9), 57);
        CHECK.due("turn again", x.turn(0, 0, 0), 19);
        CHECK.due("heat stays", x.door(0, 4), 50);
        CHECK.due("voice stays", x.door(0, 5), 0);
        CHECK.due("kind above", x.turn(0, 6, -1), -2);
        CHECK.due("kind below", x.turn(0, -1, 10), -2);
        CHECK.due("figure below", x.turn(0, 0, -1), -4);
        CHECK.due("figure above", x.turn(0, 0, 10), -6);
        CHECK.due("no such door", x.turn(1, 6, -1), -1);
        CHECK.due("as it was", x.turn(0, 0, 0), 0);
    }

    private static void hours() {
        DoorKeepsQuarrel x = CHECK.house("dd001;do001;ds501;dg501;p00;p60;q0050;q1991;q2200;q3501;");
        x.moods(0, 10);
        x.moods(1, 99);
        CHECK.due("three hours", x.hours(3), 0 + 96 + 20 + 29);
        CHECK.due("no voice at 0", x.door(0, 5), 9);
        CHECK.due("voice above 0", x.door(1, 5), 1);
        CHECK.due("mood", x.person(0, 2), 1);
        CHECK.due("mood", x.person(1, 2), 90);
        CHECK.due("hours(60)", x.hours(60), 36 + 20);
        CHECK.due("mood 0 at least", x.count(4), 0);
        CHECK.due("hour", x.count(2), 63);
        CHECK.due("hours(0)", x.hours(0), -4);
        CHECK.due("hours(61)", x.hours(61), -6);
        for (int i = 0; i < 15; i++) {
            x.hours(60);
        }
        CHECK.due("hour", x.count(2), 963);
        CHECK.due("above 999", x.hours(37), -6);
        CHECK.due("to 999", x.hours(36), 20);
        CHECK.due("hour", x.count(2), 999);
        CHECK.due("one more", x.hours(1), -6);
        CHECK.due("in thought it may", x.doorThen(2, 60, 0), 20);
    }
}
