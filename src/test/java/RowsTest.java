/** Promises 33 to 37: what a row tells. */
public final class RowsTest {
    private static final Check CHECK = new Check();

    public static void main(String[] args) {
        rows();
        judges();
        who();
        whatItIs();
        byKindAndFigureAsNow();
        CHECK.end();
    }

    private static void rows() {
        DoorKeepsQuarrel x = new DoorKeepsQuarrel();
        CHECK.due("nothing to clear", x.clear(), 0);
        CHECK.due("row(-1)", x.row(-1), -4);
        CHECK.due("row(100)", x.row(100), -6);
        CHECK.due("row(0)", x.row(0), 1);
        CHECK.due("row(99)", x.row(99), 2);
        for (int i = 3; i <= 16; i++) {
            CHECK.due("row " + i, x.row(5), i);
        }
        CHECK.due("row 17", x.row(5), -6);
        CHECK.due("below first", x.row(-1), -4);
        CHECK.due("in the row", x.count(6), 16);
        CHECK.due("cleared", x.clear(), 16);
        CHECK.due("none then", x.count(6), 0);
        CHECK.due("-4", x.count(14), 2);
        CHECK.due("-6", x.count(16), 2);
    }

    private static void judges() {
        DoorKeepsQuarrel x = CHECK.house("do001;dd001;ds901;p00;q0120;q1410;");
        CHECK.due("an empty row", x.judge(), -9);
        Check.rowOf(x, 12, 20, 0);
        CHECK.due("all so", x.judge(), -9);
        CHECK.due("the row has none", x.count(6), 0);
        Check.rowOf(x, 12, 20);
        CHECK.due("of some doors", x.judge(), -9);
        Check.rowOf(x, 12, 41, 7);
        CHECK.due("the first not so", x.judge(), 1);
        CHECK.due("the row has none", x.count(6), 0);
        Check.rowOf(x, 12, 20, 0, 0);
        CHECK.due("no such door", x.judge(), 3);
        Check.rowOf(x, 0);
        CHECK.due("the first of all", x.judge(), 0);
    }

    private static void who() {
        DoorKeepsQuarrel x = CHECK.house("do001;dc001;ds401;p50;p56;p40;");
        CHECK.due("an empty row is all", x.who(0), 7);
        Check.rowOf(x, 5, 4, 3);
        CHECK.due("wherever they are", x.who(0), 3);
        CHECK.due("the row stays", x.count(6), 3);
        CHECK.due("a curtain keeps 1", x.who(1), 0);
        x.moods(2, 3);
        CHECK.due("half of 3 and 4", x.who(0), 7);
        Check.rowOf(x, 1, 0, 0);
        CHECK.due("behind a curtain all alike", x.who(1), 7);
        x.moods(2, 0);
        Check.rowOf(x, 8, 8, 8, 8);
        CHECK.due("a slammed one keeps more", x.who(2), 4);
        Check.rowOf(x, 8, 8, 7);
        CHECK.due("all of it must be so", x.who(2), 0);
        CHECK.due("nothing changes", x.count(3), 0);
        CHECK.due("no such door", x.who(3), -1);
        CHECK.due("no such door", x.who(-1), -1);
    }

    private static void byKindAndFigureAsNow() {
        DoorKeepsQuarrel x = CHECK.house("do301;p50;p30;");
        x.moods(0, 12);
        x.moods(1, 30);
        x.row(18);
        CHECK.due("who says 18 at an oak", x.who(0), 2);
        x.turn(0, 3, 7);
        CHECK.due("who says 11 at a slammed one of 7", x.who(0), 1);
        x.turn(0, 3, 0);
        CHECK.due("who says 18 at a slammed one of 0", x.who(0), 2);
        x.turn(0, 1, 5);
        x.quarrels(0, 40, 0);
        Check.rowOf(x, 40, 33);
        CHECK.due("glass of 5", x.whatIs(0, 0), 16);
        CHECK.due("oak of no figure", x.whatIs(0, 1), 0);
        x.turn(0, 4, 0);
        CHECK.due("nothing of 0", x.whatIs(0, 0), 0);
        CHECK.due("glass of figure 5", x.whatIs(0, 1), 32);
    }

    private static void whatItIs() {
        DoorKeepsQuarrel x = CHECK.house("dd001;dg301;p00;q0400;q1400;");
        CHECK.due("an empty row: all kinds", x.whatIs(0, 0), 63);
        CHECK.due("an empty row: all figures", x.whatIs(0, 1), 1023);
        Check.rowOf(x, 40, 38);
        CHECK.due("of figure 0", x.whatIs(0, 0), 1 + 4 + 16);
        CHECK.due("a door of any figure", x.whatIs(0, 1), 1023);
        CHECK.due("of figure 3", x.whatIs(1, 0), 1 + 4);
        CHECK.due("a glass one of figure 0", x.whatIs(1, 1), 1);
        Check.rowOf(x, 40, 35);
        CHECK.due("a glass one", x.whatIs(1, 0), 16);
        CHECK.due("of figure 3", x.whatIs(1, 1), 8);
        Check.rowOf(x, 40, 39, 38);
        CHECK.due("an oak one", x.whatIs(1, 0), 2);
        Check.rowOf(x, 40, 40);
        CHECK.due("a slammed or a baize one", x.whatIs(1, 0), 8 + 32);
        CHECK.due("glass is never so", x.whatIs(1, 1), 0);
        Check.rowOf(x, 39);
        CHECK.due("not its heat now", x.whatIs(1, 0), 0);
        CHECK.due("the row stays", x.count(6), 1);
        CHECK.due("nothing changes", x.door(1, 0), 4);
        CHECK.due("no such door", x.whatIs(2, 2), -1);
        CHECK.due("another what", x.whatIs(1, 2), -2);
        CHECK.due("another what", x.whatIs(1, -1), -2);
        x.quarrels(1, 11, 0);
        Check.rowOf(x, 11, 0);
        CHECK.due("cooled to nothing", x.whatIs(1, 1), 512);
    }
}
