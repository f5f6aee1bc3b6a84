/** Promises 27 and 28: whose voice is where, who is heard most, who is worst. */
public final class VoicesTest {
    private static final Check CHECK = new Check();

    public static void main(String[] args) {
        voices();
        mostHeard();
        worst();
        CHECK.end();
    }

    private static void voices() {
        DoorKeepsQuarrel x = CHECK.house("dd001;dd001;dd001;dd001;p00;p00;q0101;q2990;q3101;");
        CHECK.due("of 0", x.voices(0), 4);
        CHECK.due("of 1", x.voices(1), 9);
        CHECK.due("silent", x.voices(-1), 2);
        CHECK.due("with a voice", x.count(5), 13);
        CHECK.due("nobody", x.voices(2), -1);
        CHECK.due("nobody", x.voices(-2), -1);
        CHECK.due("nobody is 9", x.voices(9), -1);
        x.hours(5);
        CHECK.due("of 1 no more", x.voices(1), 0);
        CHECK.due("silent", x.voices(-1), 11);
        CHECK.due("no doors", new DoorKeepsQuarrel().voices(-1), 0);
    }

    private static void mostHeard() {
        DoorKeepsQuarrel x = new DoorKeepsQuarrel();
        CHECK.due("none", x.heard(0), -9);
        CHECK.due("another what", x.heard(2), -2);
        CHECK.due("another what", x.heard(-1), -2);
        CHECK.more(x, "dd001;dd001;dd001;dd001;p00;p00;p00;");
        CHECK.due("none yet", x.heard(0), -9);
        CHECK.more(x, "q0012;");
        CHECK.due("one", x.heard(0), 2);
        CHECK.more(x, "q1991;");
        CHECK.due("of several the least", x.heard(0), 1);
        CHECK.more(x, "q3012;");
        CHECK.due("doors, not heat", x.heard(0), 2);
        CHECK.more(x, "q1010;q2010;");
        CHECK.due("alike: the very first", x.heard(0), 0);
    }

    private static void worst() {
        DoorKeepsQuarrel x = new DoorKeepsQuarrel();
        CHECK.due("nobody", x.heard(1), -9);
        CHECK.more(x, "p90;p00;p00;");
        CHECK.due("alike: the least", x.heard(1), 0);
        x.moods(2, 5);
        CHECK.due("the worst", x.heard(1), 2);
        x.moods(1, 5);
        CHECK.due("of several the least", x.heard(1), 1);
    }
}
