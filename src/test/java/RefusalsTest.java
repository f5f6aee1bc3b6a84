import java.util.ArrayList;
import java.util.Arrays;
import java.util.List;
import java.util.function.ToLongFunction;

/** Each refusal of each promise: its number, that it is counted, and that nothing else changes. */
public final class RefusalsTest {
    private static final Check CHECK = new Check();
    private static final String TOLD = "dd001;ds512;do001;p50;p30;p62;q0400;q1991;h02;";
    private static final int LOW = Integer.MIN_VALUE;
    private static final int HIGH = Integer.MAX_VALUE;

    private final List<ToLongFunction<DoorKeepsQuarrel>> calls = new ArrayList<>();
    private final List<Integer> numbers = new ArrayList<>();

    private void refused(int number, ToLongFunction<DoorKeepsQuarrel> call) {
        calls.add(call);
        numbers.add(number);
    }

    public static void main(String[] args) {
        RefusalsTest test = new RefusalsTest();
        test.acts();
        test.looks();
        test.ways();
        test.rest();
        for (int i = 0; i < test.calls.size(); i++) {
            one(i, test.calls.get(i), test.numbers.get(i));
        }
        noneForNoImage();
        CHECK.end();
    }

    private static void one(int i, ToLongFunction<DoorKeepsQuarrel> call, int number) {
        DoorKeepsQuarrel x = full();
        long[] was = seen(x);
        int[] counts = refusals(x);
        long answer = call.applyAsLong(x);
        CHECK.due("refusal " + i, plain(answer), number);
        CHECK.so("refusal " + i + " changes nothing", Arrays.equals(was, seen(x)));
        counts[-number]++;
        CHECK.so("refusal " + i + " is counted once", Arrays.equals(counts, refusals(x)));
    }

    /** A house in which the row and the letters have no room either. */
    private static DoorKeepsQuarrel full() {
        DoorKeepsQuarrel x = CHECK.house(TOLD);
        x.moods(0, 33);
        x.image();
        for (int i = 0; i < 16; i++) {
            x.row(2);
        }
        for (int i = 0; i < 96; i++) {
            x.letter('d');
        }
        return x;
    }

    private static long plain(long answer) {
        if (answer >= 4000000000000000000L) {
            return 4000000000000000000L - answer;
        }
        return answer >= 1000000000 ? 1000000000 - answer : answer;
    }

    private static long[] seen(DoorKeepsQuarrel x) {
        List<Integer> all = new ArrayList<>();
        for (int what = 0; what <= 7; what++) {
            all.add(x.count(what));
        }
        for (int door = 0; door < 3; door++) {
            for (int what = 0; what < 7; what++) {
                all.add(x.door(door, what));
            }
            all.add(x.who(door));
        }
        for (int person = 0; person < 3; person++) {
            for (int what = 0; what < 4; what++) {
                all.add(x.person(person, what));
            }
            all.add(x.walk(person, 0));
            all.add(x.walk(person, 1));
        }
        return all.stream().mapToLong(v -> v).toArray();
    }

    private static int[] refusals(DoorKeepsQuarrel x) {
        int[] all = new int[7];
        for (int i = 1; i <= 6; i++) {
            all[i] = x.count(10 + i);
        }
        return all;
    }

    private void acts() {
        refused(-4, x -> x.letter(-1));
        refused(-4, x -> x.letter(LOW));
        refused(-6, x -> x.letter(256));
        refused(-6, x -> x.letter('d'));
        refused(-1, x -> x.opens(3, 0));
        refused(-1, x -> x.opens(0, 3));
        refused(-1, x -> x.opens(LOW, HIGH));
        refused(-3, x -> x.opens(0, 1));
        refused(-3, x -> x.opens(2, 0));
        refused(-1, x -> x.quarrels(3, -1, 0));
        refused(-1, x -> x.quarrels(0, 100, 3));
        refused(-4, x -> x.quarrels(0, -1, 0));
        refused(-6, x -> x.quarrels(0, 100, 0));
        refused(-1, x -> x.airs(3));
        refused(-1, x -> x.airs(-1));
        refused(-1, x -> x.moods(3, -1));
        refused(-4, x -> x.moods(0, -1));
        refused(-6, x -> x.moods(0, 100));
        refused(-1, x -> x.stands(-1, 0));
        refused(-1, x -> x.stands(0, 7));
        refused(-1, x -> x.stands(0, -1));
        refused(-1, x -> x.turn(3, 6, 10));
        refused(-2, x -> x.turn(0, 6, 10));
        refused(-2, x -> x.turn(0, -1, -1));
        refused(-4, x -> x.turn(0, 0, -1));
        refused(-6, x -> x.turn(0, 0, 10));
        refused(-4, x -> x.hours(0));
        refused(-4, x -> x.hours(LOW));
        refused(-6, x -> x.hours(61));
        refused(-6, x -> x.hours(HIGH));
    }

    private void looks() {
        refused(-1, x -> x.door(3, 7));
        refused(-1, x -> x.door(HIGH, 0));
        refused(-2, x -> x.door(0, 7));
        refused(-2, x -> x.door(0, LOW));
        refused(-1, x -> x.person(3, 4));
        refused(-1, x -> x.person(LOW, 0));
        refused(-2, x -> x.person(0, 4));
        refused(-1, x -> x.doorThen(3, -1, 2));
        refused(-4, x -> x.doorThen(0, -1, 2));
        refused(-6, x -> x.doorThen(0, 61, 2));
        refused(-2, x -> x.doorThen(0, 60, 2));
        refused(-1, x -> x.moodThen(3, -1));
        refused(-4, x -> x.moodThen(0, -1));
        refused(-6, x -> x.moodThen(0, 61));
        refused(-2, x -> x.first(3));
        refused(-2, x -> x.first(-1));
        refused(-1, x -> x.voices(3));
        refused(-1, x -> x.voices(-2));
        refused(-2, x -> x.heard(2));
        refused(-2, x -> x.heard(-1));
        refused(-2, x -> x.meet(2));
        refused(-2, x -> x.meet(-1));
    }

    private void ways() {
        refused(-1, x -> x.way(3, 0, 3));
        refused(-1, x -> x.way(0, 7, 3));
        refused(-2, x -> x.way(0, 0, 3));
        refused(-2, x -> x.way(0, 0, -1));
        refused(-1, x -> x.fewest(3, 0));
        refused(-1, x -> x.fewest(0, 7));
        refused(-1, x -> x.near(3));
        refused(-1, x -> x.near(-1));
        refused(-1, x -> x.goes(3, 0));
        refused(-1, x -> x.goes(0, 7));
        refused(-1, x -> x.air(3, 0));
        refused(-1, x -> x.air(0, -1));
        refused(-1, x -> x.shut(3, 0));
        refused(-1, x -> x.shut(0, 7));
        refused(-1, x -> x.pause(3, 0, -1));
        refused(-1, x -> x.pause(0, 7, 100));
        refused(-4, x -> x.pause(0, 0, -1));
        refused(-6, x -> x.pause(0, 0, 100));
        refused(-1, x -> x.walk(3, 2));
        refused(-2, x -> x.walk(0, 2));
        refused(-2, x -> x.walk(0, -1));
    }

    private void rest() {
        refused(-1, x -> x.order(0, 0, 0));
        refused(-1, x -> x.order(0, 2, 3));
        refused(-3, x -> x.order(0, 2, 0));
        refused(-3, x -> x.order(0, 1, 1));
        refused(-1, x -> x.echo(1, 1, 0));
        refused(-1, x -> x.echo(3, 1, 0));
        refused(-3, x -> x.echo(0, 2, 0));
        refused(-3, x -> x.echo(0, 1, 1));
        refused(-1, x -> x.two(1, 1, 0));
        refused(-1, x -> x.two(0, 1, -1));
        refused(-3, x -> x.two(2, 0, 1));
        refused(-3, x -> x.two(0, 1, 1));
        refused(-1, x -> x.draught(3, -1, 1, -1, 2));
        refused(-4, x -> x.draught(0, -1, 21, 100, 2));
        refused(-4, x -> x.draught(0, 8, 1, 100, 2));
        refused(-4, x -> x.draught(0, 8, 21, -1, 2));
        refused(-6, x -> x.draught(0, 8, 2, 0, 2));
        refused(-6, x -> x.draught(0, 0, 21, 0, 2));
        refused(-6, x -> x.draught(0, 0, 2, 100, 2));
        refused(-2, x -> x.draught(0, 0, 2, 0, 2));
        refused(-2, x -> x.mean(2));
        refused(-2, x -> x.mean(-1));
        refused(-1, x -> x.who(3));
        refused(-1, x -> x.whatIs(3, 2));
        refused(-2, x -> x.whatIs(0, 2));
        refused(-4, x -> x.row(-1));
        refused(-6, x -> x.row(100));
        refused(-6, x -> x.row(0));
        refused(-4, x -> x.lots(0, 0, 2));
        refused(-6, x -> x.lots(21, 0, 2));
        refused(-2, x -> x.lots(1, 0, 2));
    }

    private static void noneForNoImage() {
        DoorKeepsQuarrel x = new DoorKeepsQuarrel();
        CHECK.due("no image", x.on(), -3);
        CHECK.due("counted", x.count(13), 1);
        CHECK.due("no doors for lots", x.lots(1, 0, 0), -3);
        CHECK.due("counted", x.count(13), 2);
    }
}
