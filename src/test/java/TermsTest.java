/** "Terms": the least and the greatest of every number, how many there may be of each, at first and at the edge. */
public final class TermsTest {
    private static final Check CHECK = new Check();
    private static final String KINDS = "docsgb";

    public static void main(String[] args) {
        sevenRooms();
        nineDoors();
        sixKinds();
        figures();
        heats();
        sixPeople();
        tempers();
        moods();
        hourOfAll();
        inThoughtPast999();
        letters();
        gives();
        keeps();
        cools();
        openingAddsMood();
        openingLeavesVoice();
        openingToTheOtherRoom();
        anHour();
        CHECK.end();
    }

    // ---- how many there may be, and the ends of numbers

    private static void sevenRooms() {
        DoorKeepsQuarrel x = CHECK.house("dd006;dd061;p00;p06;");
        CHECK.due("the one room", x.door(0, 2), 0);
        CHECK.due("the other room", x.door(0, 3), 6);
        CHECK.due("the one room", x.door(1, 2), 6);
        CHECK.due("the other room", x.door(1, 3), 1);
        CHECK.due("his room", x.person(0, 1), 0);
        CHECK.due("his room", x.person(1, 1), 6);
        for (int room = 0; room <= 6; room++) {
            CHECK.due("he was in", x.stands(0, room), Math.max(0, room - 1));
        }
        CHECK.due("no room 7", x.stands(0, 7), -1);
        CHECK.due("no room -1", x.stands(0, -1), -1);
        CHECK.due("he stays", x.person(0, 1), 6);
        CHECK.due("a way to room 6", x.fewest(1, 6), 0);
        CHECK.due("no way to room 7", x.fewest(1, 7), -1);
        CHECK.due("cut off", x.cutOff(), 127 - 64 - 2 - 1);
    }

    private static void nineDoors() {
        DoorKeepsQuarrel x = new DoorKeepsQuarrel();
        CHECK.due("none at first", x.count(0), 0);
        for (int many = 0; many < 9; many++) {
            CHECK.due("door " + many + " is not there", x.door(many, 0), -1);
            CHECK.more(x, "d" + KINDS.charAt(many % 6) + many + "06;");
            CHECK.due("doors", x.count(0), many + 1);
            CHECK.due("its kind", x.door(many, 0), many % 6);
            CHECK.due("its figure", x.door(many, 1), many);
        }
        CHECK.due("no tenth", Check.tell(x, "dd001;"), -2000);
        CHECK.due("nine", x.count(0), 9);
        CHECK.due("door 9 is not there", x.door(9, 0), -1);
    }

    private static void sixKinds() {
        DoorKeepsQuarrel x = CHECK.house("dd001;do001;dc001;ds001;dg001;db001;");
        for (int kind = 0; kind < 6; kind++) {
            CHECK.due("told", x.door(kind, 0), kind);
            CHECK.due("turned", x.turn(0, kind, 0), 10 * Math.max(0, kind - 1));
        }
        CHECK.due("no kind 6", x.turn(0, 6, 0), -2);
        CHECK.due("no kind -1", x.turn(0, -1, 0), -2);
        CHECK.due("it stays", x.door(0, 0), 5);
    }

    private static void figures() {
        DoorKeepsQuarrel x = CHECK.house("db001;db901;");
        CHECK.due("the least told", x.door(0, 1), 0);
        CHECK.due("the greatest told", x.door(1, 1), 9);
        for (int figure = 0; figure <= 9; figure++) {
            CHECK.due("turned", x.turn(0, 5, figure), 50 + Math.max(0, figure - 1));
        }
        CHECK.due("none below 0", x.turn(0, 5, -1), -4);
        CHECK.due("none above 9", x.turn(0, 5, 10), -6);
        CHECK.due("it stays", x.door(0, 1), 9);
    }

    private static void heats() {
        DoorKeepsQuarrel x = CHECK.house("dd001;p00;");
        CHECK.due("heat at first", x.door(0, 4), 0);
        CHECK.due("voice at first", x.door(0, 5), 9);
        for (int v : new int[] {0, 1, 98, 99}) {
            x.quarrels(0, v, 0);
            CHECK.due("heat", x.door(0, 4), v);
            CHECK.due("voice", x.door(0, 5), v == 0 ? 9 : 0);
            CHECK.more(x, "q0" + v / 10 + v % 10 + "0;");
            CHECK.due("heat told", x.door(0, 4), v);
            CHECK.due("voice told", x.door(0, 5), v == 0 ? 9 : 0);
        }
        CHECK.due("none above 99", x.quarrels(0, 100, 0), -6);
        CHECK.due("none below 0", x.quarrels(0, -1, 0), -4);
        CHECK.due("it stays", x.door(0, 4), 99);
        CHECK.due("0 takes the voice", x.quarrels(0, 0, 0), 99);
        CHECK.due("none", x.door(0, 5), 9);
    }

    private static void sixPeople() {
        DoorKeepsQuarrel x = new DoorKeepsQuarrel();
        CHECK.due("nobody at first", x.count(1), 0);
        for (int many = 0; many < 6; many++) {
            CHECK.due(many + " is nobody", x.person(many, 0), -1);
            CHECK.more(x, "p" + many + many + ";");
            CHECK.due("people", x.count(1), many + 1);
            CHECK.due("his temper", x.person(many, 0), many);
            CHECK.due("his room", x.person(many, 1), many);
        }
        CHECK.due("no seventh", Check.tell(x, "p00;"), -2000);
        CHECK.due("six", x.count(1), 6);
        CHECK.due("6 is nobody", x.person(6, 0), -1);
    }

    private static void tempers() {
        DoorKeepsQuarrel x = CHECK.house("p00;p90;");
        CHECK.due("the least", x.person(0, 0), 0);
        CHECK.due("the greatest", x.person(1, 0), 9);
        CHECK.due("says", x.person(0, 3), 0);
        CHECK.due("says", x.person(1, 3), 9);
    }

    private static void moods() {
        DoorKeepsQuarrel x = CHECK.house("p90;");
        CHECK.due("mood at first", x.person(0, 2), 0);
        int was = 0;
        for (int v : new int[] {0, 1, 2, 98, 99}) {
            CHECK.due("mood was", x.moods(0, v), was);
            CHECK.due("he says half, cut, and his temper", x.person(0, 3), v / 2 + 9);
            was = v;
        }
        CHECK.due("none above 99", x.moods(0, 100), -6);
        CHECK.due("none below 0", x.moods(0, -1), -4);
        CHECK.due("it stays", x.person(0, 2), 99);
    }

    private static void hourOfAll() {
        DoorKeepsQuarrel x = new DoorKeepsQuarrel();
        CHECK.due("hour at first", x.count(2), 0);
        CHECK.due("no hours", x.hours(0), -4);
        CHECK.due("61", x.hours(61), -6);
        CHECK.due("none has gone by", x.count(2), 0);
        CHECK.due("1", x.hours(1), 0);
        for (int i = 0; i < 16; i++) {
            CHECK.due("60", x.hours(60), 0);
        }
        CHECK.due("hour", x.count(2), 961);
        CHECK.due("1000 is too late", x.hours(39), -6);
        CHECK.due("hour stays", x.count(2), 961);
        CHECK.due("999 is not", x.hours(38), 0);
        CHECK.due("the last hour", x.count(2), 999);
        for (int n : new int[] {1, 60}) {
            CHECK.due("no more", x.hours(n), -6);
        }
        CHECK.due("no more", x.hours(0), -4);
        CHECK.due("no more told", Check.tell(x, "h01;"), -2000);
        CHECK.due("the image of the last hour", x.image(), 999);
        CHECK.due("on", x.on(), 999);
    }

    private static void inThoughtPast999() {
        DoorKeepsQuarrel x = new DoorKeepsQuarrel();
        for (int i = 0; i < 16; i++) {
            x.hours(60);
        }
        CHECK.more(x, "h39;do001;p00;p90;q0500;");
        x.moods(0, 99);
        CHECK.due("heat then", x.doorThen(0, 49, 0), 1);
        CHECK.due("voice then", x.doorThen(0, 50, 1), 9);
        CHECK.due("mood then", x.moodThen(0, 32), 3);
        CHECK.due("cold then", x.first(0), 50);
        CHECK.due("waits", x.pause(0, 1, 0), 50);
        CHECK.due("draughts", x.draught(0, 7, 2, 43, 0), 1);
        CHECK.due("days by lot", x.lots(20, 1, 0) > 0 ? 1 : 0, 1);
        CHECK.due("it is 999 still", x.count(2), 999);
    }

    private static void letters() {
        DoorKeepsQuarrel x = new DoorKeepsQuarrel();
        CHECK.due("none at first", x.count(7), 0);
        CHECK.due("the least", x.letter(0), 1);
        CHECK.due("the greatest", x.letter(255), 2);
        CHECK.due("below", x.letter(-1), -4);
        CHECK.due("above", x.letter(256), -6);
        CHECK.due("those stay", x.count(7), 2);
        for (int i = 3; i <= 96; i++) {
            CHECK.due("one more", x.letter(i), i);
        }
        CHECK.due("a 97th", x.letter(0), -6);
        CHECK.due("a 97th", x.letter(255), -6);
        CHECK.due("below, though full", x.letter(-1), -4);
        CHECK.due("96", x.count(7), 96);
    }

    // ---- kinds, by each heat and each figure

    private static int givesOf(int kind, int figure, int heat) {
        int more = heat == 0 ? 0 : figure;
        return new int[] {heat >> 1, heat, 0, heat + more, heat >> 1, heat + more >> 1}[kind];
    }

    private static int keepsOf(int kind, int figure, int said) {
        return new int[] {said, said, said >> 2, said + figure, said >> 2, said + figure}[kind];
    }

    private static int coolsOf(int kind, int figure) {
        return new int[] {2, 1, 2, 0, 2 + figure, 0}[kind];
    }

    private static void gives() {
        for (int kind = 0; kind < 6; kind++) {
            for (int figure = 0; figure <= 9; figure++) {
                DoorKeepsQuarrel x = CHECK.house("d" + KINDS.charAt(kind) + figure + "01;p00;");
                for (int heat = 0; heat <= 99; heat++) {
                    x.quarrels(0, heat, 0);
                    CHECK.due(kind + " of " + figure + " gives of " + heat, x.door(0, 6), givesOf(kind, figure, heat));
                }
            }
        }
        CHECK.due("a slammed one gives its figure more at 1", givesOf(3, 9, 1), 10);
    }

    private static void keeps() {
        for (int kind = 0; kind < 6; kind++) {
            for (int temper = 0; temper <= 9; temper += 3) {
                DoorKeepsQuarrel x = CHECK.house("d" + KINDS.charAt(kind) + "901;p" + temper + "0;");
                for (int mood = 0; mood <= 99; mood++) {
                    x.airs(0);
                    x.moods(0, mood);
                    x.opens(0, 0);
                    CHECK.due(kind + " keeps of mood " + mood, x.door(0, 4), keepsOf(kind, 9, mood / 2 + temper));
                }
            }
        }
    }

    private static void cools() {
        for (int kind = 0; kind < 6; kind++) {
            for (int figure = 0; figure <= 9; figure++) {
                DoorKeepsQuarrel x = CHECK.house("d" + KINDS.charAt(kind) + figure + "01;p00;");
                for (int heat = 0; heat <= 99; heat += heat < 12 ? 1 : 29) {
                    x.quarrels(0, heat, 0);
                    for (int n : new int[] {0, 1, 2, 9, 60}) {
                        int then = Math.max(0, heat - n * coolsOf(kind, figure));
                        CHECK.due(kind + " of " + figure + " cools from " + heat, x.doorThen(0, n, 0), then);
                        CHECK.due("its voice", x.doorThen(0, n, 1), then == 0 ? 9 : 0);
                    }
                    int then = Math.max(0, heat - coolsOf(kind, figure));
                    CHECK.due("an hour of it", x.hours(1), then);
                    CHECK.due("its voice", x.door(0, 5), then == 0 ? 9 : 0);
                }
            }
        }
    }

    // ---- opening, an hour

    private static void openingAddsMood() {
        DoorKeepsQuarrel x = CHECK.house("do001;p00;");
        for (int[] m : new int[][] {{0, 0, 0}, {0, 4, 0}, {0, 5, 0}, {0, 6, 1}, {98, 0, 93}, {98, 1, 94}, {98, 2, 94},
            {99, 0, 94}, {99, 99, 94}, {0, 99, 94}, {4, 0, 0}, {5, 0, 0}, {6, 0, 1}}) {
            x.quarrels(0, m[1], 0);
            x.moods(0, m[0]);
            CHECK.due("mood " + m[0] + " and " + m[1], x.opens(0, 0), m[2]);
            // He says what he says ahead of the 5 less.
            CHECK.due("he said", x.door(0, 4), Math.min(99, m[0] + m[1]) / 2);
        }
        x = CHECK.house("ds901;p90;q0990;");
        x.moods(0, 99);
        CHECK.due("108 more is 99 at most", x.opens(0, 0), 94);
        CHECK.due("the most that can be left", x.door(0, 4), 67);
    }

    private static void openingLeavesVoice() {
        DoorKeepsQuarrel x = CHECK.house("dd001;dc001;ds001;ds101;p00;p00;p90;");
        for (int[] v : new int[][] {{0, 0, 9}, {0, 1, 9}, {0, 2, 1}, {1, 7, 9}, {1, 8, 1}, {2, 0, 9}, {2, 1, 9}, {2, 2, 1},
            {3, 0, 1}}) {
            x.airs(v[0]);
            x.moods(1, v[1]);
            x.opens(1, v[0]);
            CHECK.due("voice in " + v[0] + " by mood " + v[1], x.door(v[0], 5), v[2]);
        }
        x.quarrels(1, 50, 0);
        x.moods(1, 0);
        x.opens(1, 1);
        CHECK.due("another's voice is gone, too", x.door(1, 5), 9);
        CHECK.due("with its heat", x.door(1, 4), 0);
        x.quarrels(0, 50, 0);
        x.opens(2, 0);
        CHECK.due("the last one's voice", x.door(0, 5), 2);
    }

    private static void openingToTheOtherRoom() {
        DoorKeepsQuarrel x = CHECK.house("dd060;dd012;p06;p00;");
        x.opens(0, 0);
        CHECK.due("from the one", x.person(0, 1), 0);
        x.opens(0, 0);
        CHECK.due("from the other", x.person(0, 1), 6);
        CHECK.due("not of his room", x.opens(0, 1), -3);
        CHECK.due("not of his room", x.opens(1, 1), -3);
        CHECK.due("nobody else goes", x.person(1, 1), 0);
    }

    private static void anHour() {
        DoorKeepsQuarrel x = CHECK.house("dd001;do001;p00;p00;p00;p00;");
        int[] moods = {0, 2, 3, 4};
        int[] then = {0, 0, 0, 1};
        for (int p = 0; p < 4; p++) {
            x.moods(p, moods[p]);
        }
        x.quarrels(0, 2, 3);
        x.quarrels(1, 2, 3);
        CHECK.due("all heat", x.hours(1), 1);
        for (int p = 0; p < 4; p++) {
            CHECK.due("mood of " + p, x.person(p, 2), then[p]);
        }
        CHECK.due("at 0 no voice", x.door(0, 5), 9);
        CHECK.due("at 1 a voice", x.door(1, 5), 3);
        CHECK.due("hour", x.count(2), 1);
        x.moods(3, 99);
        CHECK.due("32 hours", x.moodThen(3, 32), 3);
        CHECK.due("33 hours", x.moodThen(3, 33), 0);
        CHECK.due("34 hours", x.moodThen(3, 34), 0);
    }
}
