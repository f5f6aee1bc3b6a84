import java.util.ArrayList;
import java.util.List;

/**
 * What is only thought changes nothing: no question, and no house with a fault, has to do with what is
 * answered behind it. Each question is asked behind each other one, and alone on a twin.
 */
public final class ThoughtTest {
    private static final Check CHECK = new Check();
    private static final String TOLD = "dd001;do312;dc223;ds334;p50;p33;p90;q0402;q1201;q3330;";
    private static final int[][] NONE = {{}};
    private static final int[][] WHAT = {{0}, {1}};

    private final List<String> names = new ArrayList<>();
    private final List<int[]> arguments = new ArrayList<>();

    public static void main(String[] args) {
        ThoughtTest test = new ThoughtTest();
        test.questions();
        test.eachBehindEach();
        test.eachBehindAFault();
        test.eachWhenSmallAgain();
        CHECK.end();
    }

    private void add(String name, int[]... all) {
        for (int[] a : all) {
            names.add(name);
            arguments.add(a);
        }
    }

    private void questions() {
        add("door", new int[][] {{0, 2}, {1, 3}, {1, 0}, {3, 1}, {0, 4}, {1, 5}, {3, 6}});
        add("person", new int[][] {{0, 0}, {1, 1}, {2, 2}, {0, 3}});
        add("doorThen", new int[][] {{0, 3, 0}, {1, 9, 1}});
        add("moodThen", new int[][] {{0, 1}, {1, 0}});
        add("first", new int[][] {{0}, {1}, {2}});
        add("way", new int[][] {{0, 4, 0}, {0, 4, 1}, {1, 0, 2}, {2, 3, 0}, {0, 5, 0}, {0, 6, 1}, {2, 6, 2}});
        add("fewest", new int[][] {{0, 4}, {1, 0}, {0, 6}});
        add("near", new int[][] {{0}, {1}, {2}});
        add("cutOff", NONE);
        add("goes", new int[][] {{0, 4}, {1, 0}, {0, 6}});
        add("air", new int[][] {{0, 4}, {1, 0}});
        add("shut", new int[][] {{0, 4}, {0, 1}, {1, 0}, {1, 2}});
        add("pause", new int[][] {{0, 2, 5}, {1, 0, 20}, {0, 6, 99}});
        add("walk", new int[][] {{0, 0}, {0, 1}, {2, 0}, {2, 1}});
        add("order", new int[][] {{0, 2, 0}, {2, 0, 0}});
        add("echo", new int[][] {{0, 2, 0}, {2, 0, 0}});
        add("voices", new int[][] {{-1}, {0}, {2}});
        add("heard", WHAT);
        add("meet", WHAT);
        add("two", new int[][] {{0, 2, 0}, {2, 0, 0}});
        add("draught", new int[][] {{0, 4, 3, 9, 0}, {3, 2, 2, 9, 1}});
        add("mean", WHAT);
        add("who", new int[][] {{0}, {1}, {3}});
        add("whatIs", new int[][] {{0, 0}, {1, 1}, {3, 0}});
        add("lots", new int[][] {{1, 7, 0}, {20, -7, 1}});
        add("count", new int[][] {{0}, {1}, {2}, {3}, {4}, {5}, {6}, {7}});
    }

    /** Since it was told all has been changed, so that nothing kept of the telling answers rightly. */
    private static DoorKeepsQuarrel changed() {
        DoorKeepsQuarrel x = CHECK.house(TOLD);
        x.hours(2);
        x.turn(0, 1, 4);
        x.turn(1, 3, 7);
        x.turn(3, 4, 1);
        x.quarrels(0, 18, 1);
        x.quarrels(3, 31, 0);
        x.moods(0, 12);
        x.moods(1, 34);
        x.moods(2, 56);
        x.stands(0, 1);
        x.stands(1, 4);
        x.stands(2, 1);
        x.row(18);
        x.row(17);
        return x;
    }

    private String told(int i) {
        return Calls.told(names.get(i), arguments.get(i));
    }

    private long ask(DoorKeepsQuarrel x, int i) {
        return Calls.ask(x, names.get(i), arguments.get(i));
    }

    private void eachBehindEach() {
        for (int i = 0; i < names.size(); i++) {
            for (int j = 0; j < names.size(); j++) {
                DoorKeepsQuarrel x = changed();
                ask(x, i);
                CHECK.due(told(j) + " behind " + told(i), ask(x, j), ask(changed(), j));
            }
        }
    }

    private void eachBehindAFault() {
        for (int j = 0; j < names.size(); j++) {
            DoorKeepsQuarrel x = changed();
            int fault = Check.tell(x, "db956;dg961;dc014;p96;q4993;q0990;o20;h09;a1;dd000;");
            CHECK.due("a fault behind much", fault, -2045);
            CHECK.due(told(j) + " behind a fault", ask(x, j), ask(changed(), j));
        }
    }

    /** An image of little, then much, then on from the image: much has never been. */
    private void eachWhenSmallAgain() {
        for (int j = 0; j < names.size(); j++) {
            DoorKeepsQuarrel x = changed();
            x.image();
            CHECK.more(x, "db956;dg961;dc014;p96;p96;q4993;q5993;q0990;h09;a1;");
            for (int p = 0; p < 5; p++) {
                x.moods(p, 99);
                x.stands(p, 6);
            }
            x.turn(2, 5, 9);
            x.lots(1, 1, 0);
            x.on();
            CHECK.due(told(j) + " on from an image", ask(x, j), ask(changed(), j));
        }
    }
}
