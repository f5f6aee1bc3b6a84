/** Promise 3: every FAULT of a HOUSE, letter by letter and number by number, and that nothing comes with one. */
public final class FaultsTest {
    private static final Check CHECK = new Check();
    /** Two doors, two people, an image, a row, refusals: all that a fault must leave. */
    private static final String BEFORE = "dd001;ds512;p50;p31;q0401;h02;";
    /** A statement of each form, as it may stand behind BEFORE, and which letters fit at each place. */
    private static final String[][] FORMS = {
        {"do934;", "d", "docsgb", "0-9", "0-9", "0-9", ";"},
        {"p96;", "p", "0-9", "0-9", ";"},
        {"o00;", "o", "0-9", "0-9", ";"},
        {"q1991;", "q", "0-9", "0-9", "0-9", "0-9", ";"},
        {"a0;", "a", "0-9", ";"},
        {"h60;", "h", "0-9", "0-9", ";"}};

    public static void main(String[] args) {
        nothingTold();
        somethingLacks();
        noLetterButThese();
        noStatementBeginsSo();
        kindOneIsToldFirst();
        theFirstOfSeveral();
        fullOfLetters();
        doorsOutOfRange();
        noRoomForMoreDoors();
        peopleOutOfRange();
        noRoomForMorePeople();
        opened();
        filled();
        aired();
        hoursOutOfRange();
        hourAbove999();
        soFar();
        lettersAreNoMore();
        CHECK.end();
    }

    private static DoorKeepsQuarrel before() {
        DoorKeepsQuarrel x = CHECK.house(BEFORE);
        x.moods(0, 20);
        x.image();
        x.hours(1);
        x.row(39);
        x.row(1);
        x.airs(9);
        x.hours(0);
        return x;
    }

    /** The fault is told; nothing is counted, and nothing comes. */
    private static void fault(String told, int want) {
        DoorKeepsQuarrel x = before();
        CHECK.due("house() of '" + told + "'", Check.tell(x, told), want);
        Twins.areAlike(CHECK, "'" + told + "'", x, before());
    }

    private static void comes(String told) {
        DoorKeepsQuarrel x = before();
        CHECK.more(x, told);
        CHECK.due("letters are no more", x.count(7), 0);
    }

    // ---- kind 1

    private static void nothingTold() {
        fault("", -1000);
    }

    private static void somethingLacks() {
        for (String[] form : FORMS) {
            comes(form[0]);
            for (int size = 1; size < form[0].length(); size++) {
                fault(form[0].substring(0, size), -1000 - size);
                fault("a1;" + form[0].substring(0, size), -1003 - size);
            }
        }
    }

    private static boolean fits(int c, String letters) {
        return letters.equals("0-9") ? c >= '0' && c <= '9' : letters.indexOf(c) >= 0;
    }

    private static void noLetterButThese() {
        for (String[] form : FORMS) {
            for (int place = 1; place < form[0].length(); place++) {
                for (int c = 0; c <= 255; c++) {
                    if (!fits(c, form[place + 1])) {
                        String told = form[0].substring(0, place) + (char) c + form[0].substring(place + 1);
                        fault(told, -1000 - place);
                    }
                }
            }
        }
    }

    private static void noStatementBeginsSo() {
        for (int c = 0; c <= 255; c++) {
            if (!fits(c, "dpoqah")) {
                fault((char) c + "00;", -1000);
                fault("a0;h01;" + (char) c, -1007);
            }
        }
    }

    private static void kindOneIsToldFirst() {
        fault("dd011;x", -1006);
        fault("a9;a", -1004);
        fault("h00;p07;o99;q9999", -1017);
        fault("a9;a9;;", -1006);
    }

    private static void theFirstOfSeveral() {
        fault("dx00x;", -1001);
        fault("px;qx;", -1001);
        fault("a0;a9;h00;", -2003);
        fault("a9;a9;", -2000);
        fault("a0;a1;a0;dd077;a9;", -2009);
    }

    /** 96 letters are the most: they may all be of one house, and the end is behind the last. */
    private static void fullOfLetters() {
        String most = "h01;".repeat(24);
        DoorKeepsQuarrel x = new DoorKeepsQuarrel();
        CHECK.due("96 letters", Check.tell(x, most), 24);
        CHECK.due("24 hours", x.count(2), 24);
        CHECK.due("one too many is refused, the others come", Check.tell(x, most + "x"), 24);
        CHECK.due("refused", x.count(16), 1);
        CHECK.due("32 statements are the most", Check.tell(CHECK.house("dd001;"), "a0;".repeat(32)), 32);
        fault(most.substring(0, 95) + "0", -1095);
        fault("h01;".repeat(23) + "q000", -1096);
        fault("h01;".repeat(23) + "a0;a", -1096);
        fault("h01;".repeat(23) + "h61;", -2092);
        fault("a0;".repeat(31) + "a2;", -2093);
    }

    // ---- kind 2

    private static void numbered(String told, boolean so) {
        if (so) {
            comes("a0;" + told);
        } else {
            fault("a0;" + told, -2003);
        }
    }

    private static void doorsOutOfRange() {
        for (int one = 0; one <= 9; one++) {
            for (int other = 0; other <= 9; other++) {
                numbered("db9" + one + other + ";", one <= 6 && other <= 6 && one != other);
            }
        }
        for (int figure = 0; figure <= 9; figure++) {
            numbered("dg" + figure + "06;", true);
        }
    }

    private static void noRoomForMoreDoors() {
        String seven = "dd001;".repeat(7);
        comes(seven);
        fault(seven + "dd001;", -2042);
        fault(seven + "a8;dd001;", -2045);
        DoorKeepsQuarrel x = CHECK.house("dd001;".repeat(8));
        CHECK.due("the ninth", Check.tell(x, "dd001;"), 1);
        CHECK.due("the tenth", Check.tell(x, "dd001;"), -2000);
        CHECK.due("nine", x.count(0), 9);
        CHECK.due("nine at once, and ten", Check.tell(new DoorKeepsQuarrel(), "dd001;".repeat(10)), -2054);
    }

    private static void peopleOutOfRange() {
        for (int room = 0; room <= 9; room++) {
            numbered("p9" + room + ";", room <= 6);
        }
        for (int temper = 0; temper <= 9; temper++) {
            numbered("p" + temper + "0;", true);
        }
    }

    private static void noRoomForMorePeople() {
        comes("p00;".repeat(4));
        fault("p00;".repeat(5), -2016);
        DoorKeepsQuarrel x = CHECK.house("p00;".repeat(5));
        CHECK.due("the sixth", Check.tell(x, "p66;"), 1);
        CHECK.due("the seventh", Check.tell(x, "p66;"), -2000);
        CHECK.due("six", x.count(1), 6);
    }

    /** Behind BEFORE: 0 is in room 0, 1 in room 1; door 0 between 0 and 1, door 1 between 1 and 2. */
    private static void opened() {
        for (int person = 0; person <= 9; person++) {
            for (int door = 0; door <= 9; door++) {
                numbered("o" + person + door + ";", person <= 1 && door <= 1 && (person == 1 || door == 0));
            }
        }
        comes("o00;o01;o01;o00;");
        fault("o00;o00;o01;", -2008);
        fault("o10;o11;", -2004);
        fault("o11;o10;", -2004);
    }

    private static void filled() {
        for (int door = 0; door <= 9; door++) {
            for (int person = 0; person <= 9; person++) {
                numbered("q" + door + "00" + person + ";", door <= 1 && person <= 1);
                numbered("q" + door + "99" + person + ";", door <= 1 && person <= 1);
            }
        }
    }

    private static void aired() {
        for (int door = 0; door <= 9; door++) {
            numbered("a" + door + ";", door <= 1);
        }
    }

    private static void hoursOutOfRange() {
        for (int n = 0; n <= 99; n++) {
            numbered("h" + n / 10 + n % 10 + ";", n >= 1 && n <= 60);
        }
    }

    private static DoorKeepsQuarrel late() {
        DoorKeepsQuarrel x = CHECK.house("do001;p00;q0990;");
        for (int i = 0; i < 16; i++) {
            x.hours(60);
        }
        x.hours(9);
        return x;
    }

    private static void hourAbove999() {
        for (int n = 1; n <= 60; n++) {
            DoorKeepsQuarrel x = late();
            CHECK.due("969 and " + n, Check.tell(x, "h" + n / 10 + n % 10 + ";"), n <= 30 ? 1 : -2000);
            CHECK.due("hour then", x.count(2), n <= 30 ? 969 + n : 969);
        }
        DoorKeepsQuarrel x = late();
        CHECK.due("999 and on", Check.tell(x, "h10;h20;h01;"), -2008);
        CHECK.due("nothing of it", x.count(2), 969);
        CHECK.due("999", Check.tell(x, "h10;h20;"), 2);
        CHECK.due("the last hour", Check.tell(x, "a0;h01;"), -2003);
        CHECK.due("anything else goes on", Check.tell(x, "a0;p00;dd001;o00;q1991;"), 5);
    }

    /** Only who and what came ahead of a statement is there for it. */
    private static void soFar() {
        fault("q2100;dd034;", -2000);
        fault("a2;dd034;", -2000);
        fault("o12;do016;", -2000);
        fault("q0102;p00;", -2000);
        comes("dd034;q2100;a2;");
        comes("do016;o12;");
        comes("p00;q0102;");
    }

    private static void lettersAreNoMore() {
        DoorKeepsQuarrel x = new DoorKeepsQuarrel();
        CHECK.due("kind 1", Check.tell(x, "p00;p0"), -1006);
        CHECK.due("letters are no more", x.count(7), 0);
        CHECK.due("kind 2", Check.tell(x, "p00;p07;"), -2004);
        CHECK.due("letters are no more", x.count(7), 0);
        CHECK.due("nothing told", x.house(), -1000);
        CHECK.due("a house", Check.tell(x, "p06;"), 1);
        CHECK.due("letters are no more", x.count(7), 0);
        CHECK.due("nothing told", x.house(), -1000);
        CHECK.due("one of people", x.count(1), 1);
        CHECK.due("nothing is counted", x.count(11) + x.count(12) + x.count(13) + x.count(14) + x.count(16), 0);
    }
}
