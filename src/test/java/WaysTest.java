/** Promises 16 to 24 and 29: ways through the house, walks, meeting. */
public final class WaysTest {
    private static final Check CHECK = new Check();
    private static final String SQUARE = "dd001;do012;do002;dc034;p00;p42;p63;";

    public static void main(String[] args) {
        leastGiven();
        fewestDoorsThenLeastDoor();
        heIsThereOrCanNot();
        fewest();
        nearAndCutOff();
        goes();
        air();
        shut();
        waits();
        walks();
        meets();
        meetsOfSeveral();
        CHECK.end();
    }

    private static void wayDue(DoorKeepsQuarrel x, int person, int room, int given, int doors, int first) {
        String call = "way(" + person + ", " + room + ", ";
        CHECK.due(call + "0)", x.way(person, room, 0), given);
        CHECK.due(call + "1)", x.way(person, room, 1), doors);
        CHECK.due(call + "2)", x.way(person, room, 2), first);
    }

    private static void leastGiven() {
        DoorKeepsQuarrel x = CHECK.house(SQUARE + "q0400;q1200;q2500;");
        wayDue(x, 0, 2, 40, 2, 0);
        wayDue(x, 0, 1, 20, 1, 0);
        wayDue(x, 1, 0, 40, 2, 1);
        x.quarrels(2, 39, 0);
        wayDue(x, 0, 2, 39, 1, 2);
        x.quarrels(2, 5, 0);
        wayDue(x, 0, 1, 20, 1, 0);
        x.quarrels(0, 60, 0);
        wayDue(x, 0, 1, 25, 2, 2);
    }

    private static void fewestDoorsThenLeastDoor() {
        DoorKeepsQuarrel x = CHECK.house(SQUARE + "q0400;q1200;q2400;");
        wayDue(x, 0, 2, 40, 1, 2);
        x = CHECK.house("dd001;dd002;dd023;dd013;dd003;p00;q4020;");
        wayDue(x, 0, 3, 0, 2, 0);
        x.quarrels(3, 2, 0);
        wayDue(x, 0, 3, 0, 2, 1);
        x.quarrels(2, 2, 0);
        wayDue(x, 0, 3, 1, 1, 4);
        x.airs(4);
        wayDue(x, 0, 3, 0, 1, 4);
        x = CHECK.house("do012;do001;do001;do012;p00;q0100;q1100;q2100;q3100;");
        wayDue(x, 0, 2, 20, 2, 1);
        x.quarrels(1, 11, 0);
        wayDue(x, 0, 2, 20, 2, 2);
    }

    private static void heIsThereOrCanNot() {
        DoorKeepsQuarrel x = CHECK.house(SQUARE + "q0400;");
        wayDue(x, 0, 0, 0, 0, -9);
        wayDue(x, 0, 3, -9, -9, -9);
        wayDue(x, 0, 6, -9, -9, -9);
        CHECK.due("nobody", x.way(3, 0, 3), -1);
        CHECK.due("no room", x.way(0, 7, 3), -1);
        CHECK.due("no room", x.way(0, -1, 3), -1);
        CHECK.due("another what", x.way(0, 0, 3), -2);
        CHECK.due("another what", x.way(0, 6, -1), -2);
    }

    private static void fewest() {
        DoorKeepsQuarrel x = CHECK.house("dd001;dd012;dd023;do003;p00;q3990;");
        CHECK.due("fewest whatever is given", x.fewest(0, 3), 1);
        CHECK.due("the way has more", x.way(0, 3, 1), 3);
        CHECK.due("two", x.fewest(0, 2), 2);
        CHECK.due("there", x.fewest(0, 0), 0);
        CHECK.due("none", x.fewest(0, 4), -9);
        CHECK.due("nobody", x.fewest(1, 0), -1);
        CHECK.due("no room", x.fewest(0, 7), -1);
        x = CHECK.house("dd001;dd012;dd023;dd034;dd045;dd056;p00;");
        CHECK.due("six", x.fewest(0, 6), 6);
        CHECK.due("six on the way", x.way(0, 6, 1), 6);
    }

    private static void nearAndCutOff() {
        DoorKeepsQuarrel x = CHECK.house("dd001;dd021;dd045;p00;p04;p06;");
        CHECK.due("near", x.near(0), 7);
        CHECK.due("near", x.near(1), 48);
        CHECK.due("near himself", x.near(2), 64);
        CHECK.due("nobody", x.near(3), -1);
        CHECK.due("nobody", x.near(-1), -1);
        CHECK.due("cut off", x.cutOff(), 8 + 64);
        CHECK.due("all cut off", new DoorKeepsQuarrel().cutOff(), 127);
        CHECK.due("none cut off", CHECK.house("dd001;dd023;dd045;dd065;").cutOff(), 0);
    }

    private static void goes() {
        DoorKeepsQuarrel x = CHECK.house(SQUARE + "q0400;q1200;q2500;");
        CHECK.due("20 less 5, 20 less 5", x.goes(0, 2), 30);
        x.moods(0, 90);
        CHECK.due("99 at most, each time", x.goes(0, 2), 94);
        CHECK.due("there", x.goes(0, 0), 90);
        CHECK.due("none", x.goes(0, 3), -9);
        CHECK.due("nobody", x.goes(3, 0), -1);
        CHECK.due("no room", x.goes(0, 7), -1);
        CHECK.due("he has not gone", x.person(0, 1), 0);
        CHECK.due("nor said", x.door(0, 4), 40);
        x = CHECK.house("do001;do012;p00;q0030;q1100;");
        CHECK.due("0 at least on the way", x.goes(0, 2), 5);
        // An hour on the glass one would be the better way.
        x = CHECK.house("do001;dg901;p00;q0100;q1280;");
        CHECK.due("the way as now", x.goes(0, 1), 5);
        CHECK.due("which to air, as now", x.air(0, 1), 0);
        x.quarrels(0, 20, 0);
        CHECK.due("by the glass one", x.goes(0, 1), 9);
        // An hour ago the oak would have been the better way.
        x.quarrels(0, 15, 0);
        CHECK.due("by the glass one, as now", x.goes(0, 1), 9);
    }

    private static void air() {
        DoorKeepsQuarrel x = CHECK.house(SQUARE + "q0400;q1200;q2500;");
        CHECK.due("the straight one", x.air(0, 2), 2);
        x.quarrels(1, 10, 0);
        x.quarrels(2, 70, 0);
        CHECK.due("straight still", x.air(0, 2), 2);
        CHECK.due("on the way to 1", x.air(0, 1), 0);
        CHECK.due("nothing changes", x.door(2, 4), 70);
        CHECK.due("there", x.air(0, 0), -9);
        CHECK.due("no way", x.air(0, 3), -9);
        CHECK.due("nobody", x.air(3, 0), -1);
        CHECK.due("no room", x.air(0, 7), -1);
        x = CHECK.house("do001;do012;do012;p00;q0090;q1100;q2100;");
        CHECK.due("of two alike the least", x.air(0, 2), 1);
        CHECK.more(x, "a0;a1;");
        CHECK.due("nothing to air", x.air(0, 2), -9);
        x = CHECK.house("dd001;p00;q0020;");
        CHECK.due("1 given is more than none", x.air(0, 1), 0);
        x.quarrels(0, 1, 0);
        CHECK.due("none given already", x.air(0, 1), -9);
        x = CHECK.house("do001;dg912;p00;q0100;q1280;");
        CHECK.due("the one that gives most now", x.air(0, 2), 1);
        // An hour ago the glass one gave more.
        x.quarrels(0, 15, 0);
        CHECK.due("the one that gives most now", x.air(0, 2), 0);
    }

    private static void shut() {
        DoorKeepsQuarrel x = CHECK.house("dd012;dd001;dd001;dd034;p00;p03;");
        CHECK.due("the one to 2", x.shut(0, 2), 0);
        CHECK.due("two to 1", x.shut(0, 1), -9);
        CHECK.due("there", x.shut(0, 0), -9);
        CHECK.due("no way at all", x.shut(0, 4), -9);
        CHECK.due("the only one", x.shut(1, 4), 3);
        CHECK.due("nobody", x.shut(2, 0), -1);
        CHECK.due("no room", x.shut(0, 7), -1);
        x = CHECK.house("dd012;dd001;p00;");
        CHECK.due("of two the least", x.shut(0, 2), 0);
        CHECK.due("it is open still", x.fewest(0, 2), 2);
    }

    private static void waits() {
        DoorKeepsQuarrel x = CHECK.house("do001;do012;ds702;p00;q0100;q1200;q2400;");
        CHECK.due("at once", x.pause(0, 2, 30), 0);
        CHECK.due("one hour", x.pause(0, 2, 29), 1);
        CHECK.due("both cool", x.pause(0, 2, 10), 10);
        CHECK.due("then one cools", x.pause(0, 2, 9), 11);
        CHECK.due("to nothing", x.pause(0, 2, 0), 20);
        CHECK.due("there", x.pause(0, 0, 0), 0);
        CHECK.due("no way", x.pause(0, 3, 99), -9);
        x.quarrels(0, 60, 0);
        CHECK.due("the slammed one is better", x.pause(0, 2, 47), 0);
        CHECK.due("till the others cool", x.pause(0, 2, 46), 17);
        CHECK.due("60 hours", x.pause(0, 1, 0), 60);
        x.quarrels(0, 61, 0);
        CHECK.due("61 hours", x.pause(0, 1, 0), -9);
        CHECK.due("nobody", x.pause(1, 0, -1), -1);
        CHECK.due("no room", x.pause(0, 7, 100), -1);
        CHECK.due("below", x.pause(0, 2, -1), -4);
        CHECK.due("above", x.pause(0, 2, 100), -6);
    }

    private static void walks() {
        DoorKeepsQuarrel x = CHECK.house("do001;do012;p40;p61;q0200;");
        CHECK.due("no row", x.walk(0, 0), -9);
        CHECK.due("no row: as now", x.walk(0, 1), 0);
        Check.rowOf(x, 0, 0, 1);
        CHECK.due("back, so not of his room", x.walk(0, 0), 2);
        // 20: says 14, 15 left; 29: says 18, 24 left.
        CHECK.due("mood till then", x.walk(0, 1), 24);
        CHECK.due("the row stays", x.count(6), 3);
        CHECK.due("from another room he can", x.walk(1, 0), -9);
        Check.rowOf(x, 0, 1);
        CHECK.due("all of it", x.walk(0, 0), -9);
        CHECK.due("all of it", x.walk(0, 1), 10);
        Check.rowOf(x, 0, 2, 1);
        CHECK.due("no such door", x.walk(0, 0), 1);
        CHECK.due("till then", x.walk(0, 1), 15);
        CHECK.due("he has not gone", x.person(0, 1), 0);
        CHECK.due("nor said", x.door(0, 4), 20);
        CHECK.due("nobody", x.walk(2, 2), -1);
        CHECK.due("another what", x.walk(0, 2), -2);
        CHECK.due("another what", x.walk(0, -1), -2);
    }

    private static void meets() {
        DoorKeepsQuarrel x = new DoorKeepsQuarrel();
        CHECK.due("nobody meets anywhere", x.meet(0), 0);
        CHECK.due("for nothing", x.meet(1), 0);
        CHECK.due("another what", x.meet(2), -2);
        CHECK.due("another what", x.meet(-1), -2);
        CHECK.more(x, "do012;do023;p01;p03;q0300;q1200;");
        CHECK.due("all alike: the least", x.meet(0), 1);
        CHECK.due("together", x.meet(1), 50);
        CHECK.more(x, "p03;");
        CHECK.due("where two are", x.meet(0), 3);
        CHECK.due("together", x.meet(1), 50);
        CHECK.more(x, "p06;");
        CHECK.due("one is cut off", x.meet(0), -9);
        CHECK.due("one is cut off", x.meet(1), -9);
    }

    private static void meetsOfSeveral() {
        DoorKeepsQuarrel x = CHECK.house("do001;do002;do003;p01;p02;p03;q0100;q1100;q2100;");
        CHECK.due("in the middle", x.meet(0), 0);
        CHECK.due("each by his way", x.meet(1), 30);
    }
}
