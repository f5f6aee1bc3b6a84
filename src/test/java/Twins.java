import java.util.ArrayList;
import java.util.Arrays;
import java.util.List;

/**
 * Two objects made by the same calls, of which one has been asked something more: whether anything
 * but its refusals tells them apart. What only a change can show (the letters, the row, the image)
 * is looked at last, so twins are of no use behind it.
 */
final class Twins {
    private Twins() {
    }

    static void differByARefusal(Check check, String asked, DoorKeepsQuarrel x, DoorKeepsQuarrel twin, int number) {
        refusalsDiffer(check, asked, x, twin, number);
        check.due(asked + ": in the row", x.count(6), twin.count(6));
        check.due(asked + ": letters", x.count(7), twin.count(7));
        check.so(asked + ": the house stays", Arrays.equals(house(x), house(twin)));
        check.so(asked + ": the row stays", Arrays.equals(row(x), row(twin)));
        check.due(asked + ": the letters stay", x.house(), twin.house());
        check.so(asked + ": what they tell", Arrays.equals(sums(x), sums(twin)));
        check.due(asked + ": the image stays", x.on(), twin.on());
        check.so(asked + ": what it holds", Arrays.equals(house(x), house(twin)));
    }

    static void areAlike(Check check, String asked, DoorKeepsQuarrel x, DoorKeepsQuarrel twin) {
        differByARefusal(check, asked, x, twin, 0);
    }

    static void refusalsDiffer(Check check, String asked, DoorKeepsQuarrel x, DoorKeepsQuarrel twin, int number) {
        for (int i = 1; i <= 6; i++) {
            check.due(asked + ": count(" + (10 + i) + ")", x.count(10 + i), twin.count(10 + i) + (i == -number ? 1 : 0));
        }
    }

    /** Doors, people, hour: all of it that calls can tell. */
    static long[] house(DoorKeepsQuarrel x) {
        List<Integer> all = new ArrayList<>();
        for (int d = 0; d < x.count(0); d++) {
            for (int what = 0; what <= 6; what++) {
                all.add(x.door(d, what));
            }
        }
        for (int p = 0; p < x.count(1); p++) {
            for (int what = 0; what <= 3; what++) {
                all.add(x.person(p, what));
            }
        }
        all.add(x.count(2));
        return all.stream().mapToLong(v -> v).toArray();
    }

    private static long[] sums(DoorKeepsQuarrel x) {
        long[] all = new long[6];
        for (int what = 0; what < all.length; what++) {
            all[what] = x.count(what);
        }
        return all;
    }

    private static long[] row(DoorKeepsQuarrel x) {
        List<Integer> all = new ArrayList<>();
        for (int d = 0; d < Math.min(2, x.count(0)); d++) {
            all.add(x.whatIs(d, 0));
            all.add(x.who(d));
        }
        all.add(x.judge());
        return all.stream().mapToLong(v -> v).toArray();
    }
}
