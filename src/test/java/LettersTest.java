/** Promises 1 to 3: a new object, letters, the house told in them. */
public final class LettersTest {
    private static final Check CHECK = new Check();

    public static void main(String[] args) {
        aNewObject();
        letters();
        misspelt();
        notAsItMustBe();
        nothingComesWithAFault();
        statementsComeInOrder();
        noRoomForMore();
        hourAbove999();
        CHECK.end();
    }

    private static void aNewObject() {
        DoorKeepsQuarrel x = new DoorKeepsQuarrel();
        for (int what = 0; what <= 7; what++) {
            CHECK.due("new: count(" + what + ")", x.count(what), 0);
        }
        for (int what = 11; what <= 16; what++) {
            CHECK.due("new: count(" + what + ")", x.count(what), 0);
        }
        CHECK.due("new: door(0, 0)", x.door(0, 0), -1);
        CHECK.due("new: person(0, 0)", x.person(0, 0), -1);
        CHECK.due("new: on()", x.on(), -3);
    }

    private static void letters() {
        DoorKeepsQuarrel x = new DoorKeepsQuarrel();
        CHECK.due("letter(0)", x.letter(0), 1);
        CHECK.due("letter(255)", x.letter(255), 2);
        CHECK.due("letter(-1)", x.letter(-1), -4);
        CHECK.due("letter(256)", x.letter(256), -6);
        for (int i = 3; i <= 96; i++) {
            CHECK.due("letter " + i, x.letter('d'), i);
        }
        CHECK.due("letter 97", x.letter('d'), -6);
        CHECK.due("letter(-1) when full", x.letter(-1), -4);
        CHECK.due("letters", x.count(7), 96);
        CHECK.due("refusals -4", x.count(14), 2);
        CHECK.due("refusals -6", x.count(16), 2);
        CHECK.due("house() of signs", x.house(), -1000);
        CHECK.due("letters are no more", x.count(7), 0);
    }

    private static void fault(String told, int want) {
        DoorKeepsQuarrel x = new DoorKeepsQuarrel();
        CHECK.due("house() of '" + told + "'", Check.tell(x, told), want);
        for (int what = 0; what <= 7; what++) {
            CHECK.due("'" + told + "' left count(" + what + ")", x.count(what), 0);
        }
        for (int what = 11; what <= 16; what++) {
            CHECK.due("'" + told + "' counted " + what, x.count(what), 0);
        }
    }

    private static void misspelt() {
        fault("", -1000);
        fault(";", -1000);
        fault("D", -1000);
        fault("d", -1001);
        fault("dx", -1001);
        fault("d0", -1001);
        fault("dd001", -1005);
        fault("dd0010", -1005);
        fault("dd001;d", -1007);
        fault("dd001; p00;", -1006);
        fault("dp001;", -1001);
        fault("p00;;", -1004);
        fault("p0a;", -1002);
        fault("p000;", -1003);
        fault("o0", -1002);
        fault("q000", -1004);
        fault("q0000", -1005);
        fault("q00;", -1003);
        fault("a00;", -1002);
        fault("h1;", -1002);
        fault("h100;", -1003);
        for (int c : new int[] {'d', 'o', 'c', 's', 'g', 'b'}) {
            fault("d" + (char) c + "0/1;", -1003);
            fault("d" + (char) c + "0:1;", -1003);
        }
        // Kind 1 is told first, wherever it is.
        fault("dd000;p09;x", -1010);
        fault("a5;h", -1004);
        // Letters told before are no more: none of them ends what lacks its end now.
        DoorKeepsQuarrel x = CHECK.house("dd001;p00;");
        CHECK.due("its end lacks", Check.tell(x, "dd001"), -1005);
        CHECK.due("the end of the second lacks", Check.tell(x, "dd001;p0"), -1008);
    }

    private static void notAsItMustBe() {
        fault("dd011;", -2000);
        fault("dd007;", -2000);
        fault("dd090;", -2000);
        fault("p07;", -2000);
        fault("o00;", -2000);
        fault("p00;o00;", -2004);
        fault("dd001;o00;", -2006);
        fault("dd001;p00;o10;", -2010);
        fault("dd001;p00;o01;", -2010);
        fault("dd012;p00;o00;", -2010);
        fault("dd001;q0500;", -2006);
        fault("p00;q0500;", -2004);
        fault("dd001;p00;q0501;", -2010);
        fault("a0;", -2000);
        fault("dd001;a1;", -2006);
        fault("h00;", -2000);
        fault("h61;", -2000);
        // He must be so far there: whoever comes later does not count.
        fault("o00;dd001;p00;", -2000);
        // Having opened it he is behind it.
        fault("dd001;dd023;p00;o00;o01;", -2020);
    }

    private static void nothingComesWithAFault() {
        DoorKeepsQuarrel x = CHECK.house("dd001;p50;q0400;");
        CHECK.due("fault behind much", Check.tell(x, "o00;h10;a0;p11;do912;dd011;"), -2021);
        CHECK.due("doors stay", x.count(0), 1);
        CHECK.due("people stay", x.count(1), 1);
        CHECK.due("the hour stays", x.count(2), 0);
        CHECK.due("heat stays", x.door(0, 4), 40);
        CHECK.due("voice stays", x.door(0, 5), 0);
        CHECK.due("his room stays", x.person(0, 1), 0);
        CHECK.due("letters are no more", x.count(7), 0);
        CHECK.due("a letter comes first", x.letter('p'), 1);
    }

    private static void statementsComeInOrder() {
        DoorKeepsQuarrel x = CHECK.house("dd001;dc312;p90;o00;o01;");
        CHECK.due("he has gone on", x.person(0, 1), 2);
        CHECK.due("what he left in a door", x.door(0, 4), 9);
        CHECK.due("what he left in a curtain", x.door(1, 4), 2);
        CHECK.due("its kind", x.door(1, 0), 2);
        CHECK.due("its figure", x.door(1, 1), 3);
        CHECK.more(x, "q0990;h02;q1000;");
        CHECK.due("heat told and cooled", x.door(0, 4), 95);
        CHECK.due("no heat, no voice", x.door(1, 5), 9);
        CHECK.due("two hours", x.count(2), 2);
        CHECK.more(x, "a0;");
        CHECK.due("aired", x.door(0, 4), 0);
        CHECK.due("aired of voices", x.door(0, 5), 9);
        CHECK.more(x, "h60;");
        CHECK.due("60 hours more", x.count(2), 62);
        CHECK.more(x, "h01;");
        CHECK.due("1 hour more", x.count(2), 63);
    }

    private static void noRoomForMore() {
        DoorKeepsQuarrel x = CHECK.house("dd001;do012;dc023;ds034;dg045;db056;dd006;do005;dc004;p00;p16;p23;p33;p43;p53;");
        CHECK.due("nine doors", x.count(0), 9);
        CHECK.due("six people", x.count(1), 6);
        CHECK.due("a tenth door", Check.tell(x, "a8;dd001;"), -2003);
        CHECK.due("a seventh person", Check.tell(x, "p00;"), -2000);
        for (int kind = 0; kind < 6; kind++) {
            CHECK.due("kind of the letter", x.door(kind, 0), kind);
        }
    }

    private static void hourAbove999() {
        DoorKeepsQuarrel x = new DoorKeepsQuarrel();
        for (int i = 0; i < 16; i++) {
            x.hours(60);
        }
        CHECK.due("to 1000", Check.tell(x, "h40;"), -2000);
        CHECK.due("to 999 and on", Check.tell(x, "h39;h01;"), -2004);
        CHECK.more(x, "h39;");
        CHECK.due("the last hour", x.count(2), 999);
    }
}
