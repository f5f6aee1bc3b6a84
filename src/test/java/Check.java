/** What the tests share: telling a house, comparing answers, ending with 1 if one was wrong. */
final class Check {
    private static final int MOST_TOLD = 40;
    private int wrong = 0;
    private int checked = 0;

    void due(String call, long got, long want) {
        checked++;
        if (got != want) {
            wrong++;
            if (wrong <= MOST_TOLD) {
                System.out.println(call + " answered " + got + ", due is " + want);
            }
        }
    }

    void so(String what, boolean is) {
        due(what, is ? 1 : 0, 1);
    }

    /** Tells the house and checks that all its statements come. */
    DoorKeepsQuarrel house(String told) {
        DoorKeepsQuarrel x = new DoorKeepsQuarrel();
        more(x, told);
        return x;
    }

    void more(DoorKeepsQuarrel x, String told) {
        due("house() of " + told, tell(x, told), told.chars().filter(c -> c == ';').count());
    }

    static int tell(DoorKeepsQuarrel x, String told) {
        for (int i = 0; i < told.length(); i++) {
            x.letter(told.charAt(i));
        }
        return x.house();
    }

    static void rowOf(DoorKeepsQuarrel x, int... numbers) {
        x.clear();
        for (int v : numbers) {
            x.row(v);
        }
    }

    void end() {
        System.out.println(checked + " checked, " + wrong + " wrong");
        if (wrong != 0) {
            System.exit(1);
        }
    }
}
