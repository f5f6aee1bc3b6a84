import java.lang.reflect.InvocationTargetException;
import java.lang.reflect.Method;
import java.util.ArrayList;
import java.util.Arrays;
import java.util.Comparator;
import java.util.List;
import java.util.Random;

/** All promises: runs of calls by lot, each answer set beside the Model's. */
public final class ModelTest {
    private static final int RUNS = 1500;
    private static final int CALLS = 500;
    private static final List<Method> CALLED = methods();

    private final Check check = new Check();
    private final Random random;
    private final DoorKeepsQuarrel x = new DoorKeepsQuarrel();
    private final Model model = new Model();
    private final StringBuilder told = new StringBuilder();
    private int left = CALLS;

    private ModelTest(long seed) {
        random = new Random(seed);
    }

    private static List<Method> methods() {
        List<Method> all = new ArrayList<>();
        for (Method m : DoorKeepsQuarrel.class.getDeclaredMethods()) {
            if (java.lang.reflect.Modifier.isPublic(m.getModifiers())) {
                all.add(m);
            }
        }
        // Reflection tells methods in no fixed order; the runs must be the same each time.
        all.sort(Comparator.comparing(Method::getName));
        return all;
    }

    private static Method named(String name) {
        return CALLED.stream().filter(m -> m.getName().equals(name)).findFirst().orElseThrow();
    }

    private boolean same(Method m, Object... args) throws ReflectiveOperationException {
        left--;
        long got = ((Number) m.invoke(x, args)).longValue();
        long want;
        try {
            Method other = Model.class.getMethod(m.getName(), m.getParameterTypes());
            want = ((Number) other.invoke(model, args)).longValue();
        } catch (InvocationTargetException e) {
            if (!(e.getCause() instanceof Model.Refused)) {
                throw e;
            }
            want = model.counted((Model.Refused) e.getCause(), m.getName());
        }
        String call = m.getName() + Arrays.toString(args);
        told.append(call).append(" = ").append(want).append('\n');
        check.due(call, got, want);
        return got == want;
    }

    private int argument() {
        switch (random.nextInt(12)) {
            case 0: return random.nextInt(110) - 5;
            case 1: return random.nextInt(25) - 2;
            case 2: return new int[] {-1, 7, 9, 10, 60, 61, 99, 100, 255, 256, Integer.MIN_VALUE,
                Integer.MAX_VALUE, -1000000000, 20, 21}[random.nextInt(15)];
            case 3:
            case 4: return random.nextInt(10);
            case 5: return random.nextInt(61);
            default: return random.nextInt(4);
        }
    }

    private String statement() {
        switch (random.nextInt(10)) {
            case 0:
            case 1:
            case 2: return "d" + "docsgb".charAt(random.nextInt(6)) + random.nextInt(10)
                    + random.nextInt(random.nextInt(20) == 0 ? 8 : 3 + random.nextInt(4)) + random.nextInt(5) + ";";
            case 3:
            case 4: return "p" + random.nextInt(10) + random.nextInt(random.nextInt(20) == 0 ? 8 : 4) + ";";
            case 5: return "o" + random.nextInt(3) + random.nextInt(4) + ";";
            case 6:
            case 7: return "q" + random.nextInt(6) + random.nextInt(10) + random.nextInt(10) + random.nextInt(4) + ";";
            case 8: return "a" + random.nextInt(5) + ";";
            default: return "h" + random.nextInt(6) + random.nextInt(10) + ";";
        }
    }

    private boolean tells() throws ReflectiveOperationException {
        StringBuilder text = new StringBuilder();
        int many = 1 + random.nextInt(4);
        for (int i = 0; i < many; i++) {
            text.append(statement());
        }
        if (random.nextInt(15) == 0) {
            text.setCharAt(random.nextInt(text.length()), (char) (random.nextInt(3) == 0 ? random.nextInt(256)
                    : "dopqah;0189scgb".charAt(random.nextInt(15))));
        }
        if (random.nextInt(25) == 0) {
            text.deleteCharAt(random.nextInt(text.length()));
        }
        boolean same = true;
        for (int i = 0; i < text.length() && left > 1; i++) {
            same &= same(named("letter"), (int) text.charAt(i));
        }
        return same & same(named("house"));
    }

    /** Rows by lot are seldom right, so some are told as things are. */
    private boolean rowAsItIs() throws ReflectiveOperationException {
        boolean same = same(named("clear"));
        int many = random.nextInt(5);
        int door = random.nextInt(3);
        boolean given = random.nextBoolean();
        for (int i = 0; i < many; i++) {
            int v = given ? x.door(i, 6) : x.doorThen(door, i, 0);
            // These looks were at x alone; a refused one must be counted on both sides.
            if (v < 0) {
                model.counted(new Model.Refused(v), "");
                v = 0;
            }
            same &= same(named("row"), v);
        }
        return same & (given ? same(named("judge")) : same(named("whatIs"), door, random.nextInt(2)));
    }

    private boolean walkAsItCan() throws ReflectiveOperationException {
        boolean same = same(named("clear"));
        for (int i = random.nextInt(6); i >= 0; i--) {
            same &= same(named("row"), random.nextInt(4));
        }
        return same & same(named("walk"), random.nextInt(2), random.nextInt(2));
    }

    private boolean step() throws ReflectiveOperationException {
        int lot = random.nextInt(100);
        if (lot < 4) {
            return tells();
        }
        if (lot < 8) {
            return rowAsItIs();
        }
        if (lot < 11) {
            return walkAsItCan();
        }
        Method m = CALLED.get(random.nextInt(CALLED.size()));
        Object[] args = new Object[m.getParameterCount()];
        for (int i = 0; i < args.length; i++) {
            args[i] = argument();
        }
        if (m.getName().equals("lots")) {
            args[1] = random.nextInt();
        }
        return same(m, args);
    }

    private boolean run() throws ReflectiveOperationException {
        boolean same = true;
        for (int i = 0; i < 6 && same; i++) {
            same = tells();
        }
        while (left > 0 && same) {
            same = step();
        }
        for (int what = -1; what <= 18 && same; what++) {
            same = same(named("count"), what);
        }
        return same;
    }

    public static void main(String[] args) throws ReflectiveOperationException {
        for (int seed = 1; seed <= RUNS; seed++) {
            ModelTest test = new ModelTest(seed);
            if (!test.run()) {
                System.out.println("in the run of seed " + seed + ", the calls and what was due:");
                System.out.println(test.told);
                System.exit(1);
            }
        }
        System.out.println(RUNS + " runs are as in the model");
    }
}
