/** Promises 39 to 41: the image, on from it, counts. */
public final class ImageTest {
    private static final Check CHECK = new Check();

    public static void main(String[] args) {
        image();
        whatIsNotInIt();
        nothingIsLeftOver();
        noDoorIsLeftToTwo();
        counts();
        CHECK.end();
    }

    private static void image() {
        DoorKeepsQuarrel x = new DoorKeepsQuarrel();
        CHECK.due("no image", x.on(), -3);
        CHECK.more(x, "dd001;ds512;p50;q0400;h03;");
        x.moods(0, 9);
        CHECK.due("image", x.image(), 3);
        CHECK.more(x, "do334;p61;q1990;h10;");
        x.opens(0, 0);
        x.turn(1, 5, 1);
        x.stands(0, 6);
        CHECK.due("on", x.on(), 3);
        int[] due = {2, 1, 3, 34, 9, 1};
        for (int what = 0; what < due.length; what++) {
            CHECK.due("count(" + what + ")", x.count(what), due[what]);
        }
        CHECK.due("kind", x.turn(1, 0, 0), 35);
        CHECK.due("room", x.person(0, 1), 0);
        CHECK.due("no second person", x.person(1, 0), -1);
        CHECK.due("on again", x.on(), 3);
        CHECK.due("as then again", x.door(1, 0), 3);
        x.hours(1);
        CHECK.due("another image", x.image(), 4);
        x.hours(60);
        CHECK.due("on from that", x.on(), 4);
        CHECK.due("heat of that", x.door(0, 4), 32);
    }

    private static void whatIsNotInIt() {
        DoorKeepsQuarrel x = CHECK.house("dd001;p50;");
        x.row(7);
        x.letter('p');
        x.image();
        x.row(8);
        x.letter('0');
        x.door(9, 9);
        CHECK.due("on", x.on(), 0);
        CHECK.due("the row is as it was", x.count(6), 2);
        CHECK.due("letters are as they were", x.count(7), 2);
        CHECK.due("refusals, too", x.count(11), 1);
        DoorKeepsQuarrel empty = new DoorKeepsQuarrel();
        CHECK.due("an image of nothing", empty.image(), 0);
        CHECK.more(empty, "dd001;p50;h02;");
        CHECK.due("on from nothing", empty.on(), 0);
        CHECK.due("no doors", empty.count(0), 0);
        CHECK.due("nobody", empty.count(1), 0);
    }

    /** What came behind the image is not looked at any more. */
    private static void nothingIsLeftOver() {
        DoorKeepsQuarrel x = CHECK.house("dd001;p50;");
        x.image();
        CHECK.more(x, "ds912;p91;q1901;");
        x.moods(1, 99);
        // Days by lot are thought of everything as it is now; nothing of them may be left either.
        x.lots(1, 1, 0);
        x.on();
        CHECK.due("no heat", x.count(3), 0);
        CHECK.due("no moods", x.count(4), 0);
        CHECK.due("no voices", x.count(5), 0);
        CHECK.due("cold", x.first(0), 0);
        CHECK.due("hottest", x.first(1), 0);
        CHECK.due("loudest", x.first(2), 0);
        CHECK.due("worst", x.heard(1), 0);
        CHECK.due("nobody is heard", x.heard(0), -9);
        CHECK.due("silent", x.voices(-1), 1);
        CHECK.due("cut off", x.cutOff(), 124);
        CHECK.due("no way on", x.fewest(0, 2), -9);
        CHECK.due("nothing shuts", x.shut(0, 1), 0);
        CHECK.due("nothing to air", x.air(0, 1), -9);
        CHECK.due("the mean", x.mean(0), 0);
        CHECK.due("he meets himself", x.meet(1), 0);
        Check.rowOf(x, 0, 99);
        CHECK.due("no second door to judge", x.judge(), 1);
        CHECK.more(x, "do012;p31;");
        CHECK.due("a new door is cold", x.door(1, 4), 0);
        CHECK.due("and has no voice", x.door(1, 5), 9);
        CHECK.due("who comes is in the best mood", x.person(1, 2), 0);
    }

    private static void noDoorIsLeftToTwo() {
        DoorKeepsQuarrel x = CHECK.house("dd001;p50;p60;");
        x.image();
        CHECK.more(x, "dd001;");
        CHECK.due("the second door", x.order(0, 1, 1), 0);
        x.on();
        CHECK.due("it has never been", x.order(0, 1, 1), -1);
        CHECK.due("it has never been", x.echo(0, 1, 1), 1000000001);
        CHECK.due("it has never been", x.two(0, 1, 1), -1);
    }

    private static void counts() {
        DoorKeepsQuarrel x = CHECK.house("dd001;do001;dd001;p00;p00;q0401;q2500;h07;");
        x.moods(0, 30);
        x.moods(1, 4);
        x.row(1);
        x.letter('x');
        int[] due = {3, 2, 7, 26 + 36, 34, 5, 1, 1};
        for (int what = 0; what < due.length; what++) {
            CHECK.due("count(" + what + ")", x.count(what), due[what]);
        }
        for (int what : new int[] {-1, 8, 9, 10, 17, Integer.MIN_VALUE, Integer.MAX_VALUE}) {
            CHECK.due("count(" + what + ")", x.count(what), -9);
        }
        for (int what = 11; what <= 16; what++) {
            CHECK.due("another what is not counted", x.count(what), 0);
        }
    }
}
