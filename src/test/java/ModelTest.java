import java.lang.reflect.InvocationTargetException;
import java.lang.reflect.Method;
import java.util.Arrays;
import java.util.HashMap;
import java.util.Map;
import java.util.Random;

/** All promises: long random runs of calls, on the program and on the document told once more (PlainCards). */
final class ModelTest {
    private static final int RUNS = 400;
    private static final int CALLS = 512;
    private static final int[] MOST_SETTING = {15, 2, 20, 3, 3};
    private static final Map<String, Method> METHODS = new HashMap<>();

    private static long compared = 0;
    private static int wrong = 0;

    private final Random random;
    private final int run;
    private final SpoonCards x = new SpoonCards();
    private final PlainCards y = new PlainCards();
    private int calls = 0;

    private ModelTest(int run) {
        this.run = run;
        this.random = new Random(run);
    }

    public static void main(String[] args) {
        for (Class<?> type : new Class<?>[] {SpoonCards.class, PlainCards.class}) {
            for (Method method : type.getDeclaredMethods()) {
                METHODS.put(type.getName() + method.getName() + method.getParameterCount(), method);
            }
        }
        for (int run = 0; run < RUNS && wrong == 0; run++) {
            new ModelTest(run).play();
        }
        System.out.println("ModelTest: " + compared + " calls compared, " + wrong + " wrong");
        System.exit(wrong == 0 && compared > 0 ? 0 : 1);
    }

    private void play() {
        // some runs have few steps and ingredients, others are filled up first
        int warmUp = run % 3 * 20;
        while (calls < CALLS) {
            int kind = random.nextInt(40);
            if (kind == 0) append();
            else if (calls < warmUp || kind < 16) act();
            else if (kind < 28) look();
            else wonder();
        }
    }

    private void append() {
        if (random.nextBoolean()) both("clearText");
        for (char c : RandomText.card(random).toCharArray()) {
            if (calls < CALLS - 2) both("append", (int) c);
        }
        if (random.nextInt(9) == 0) both("append", in(0, 255));
        both("errorPosition");
        if (random.nextBoolean()) both("load");
    }

    private void act() {
        boolean mostly = random.nextInt(4) != 0;
        int what = in(0, 4);
        int most = what < 0 || what > 4 ? 9 : MOST_SETTING[what];
        switch (random.nextInt(14)) {
            case 0: both("ingredient", grains()); break;
            case 1: case 2: both("step", in(1, random.nextBoolean() ? 90 : 12), in(-1, 3), mostly); break;
            case 3: case 4: case 5: both("need", step(), step(), mostly); break;
            case 6: both("amount", some(), grains()); break;
            case 7: both("servings", in(1, 24), in(1, 24)); break;
            case 8: both("minutes", step(), in(1, 90)); break;
            case 9: both("use", step(), some(), mostly); break;
            case 10: both("pans", in(0, 3), in(0, 3)); break;
            case 11: both("set", what, in(what == 0 || what == 3 ? 1 : 0, most)); break;
            case 12: both("undo"); break;
            default: both(random.nextBoolean() ? "save" : "restore", in(0, 1)); break;
        }
    }

    private void look() {
        switch (random.nextInt(9)) {
            case 0: both("about", in(0, 9)); break;
            case 1: case 2: both("ingredientOf", some(), in(0, 6)); break;
            case 3: both("spoons", some(), in(0, 3)); break;
            case 4: case 5: both("stepOf", step(), in(0, 9)); break;
            case 6: both("begun", step()); break;
            case 7: both("during", in(0, random.nextInt(9) == 0 ? 1500 : 120), in(0, 9)); break;
            default: both(random.nextBoolean() ? "pieces" : "setting", in(0, 4)); break;
        }
    }

    private void wonder() {
        switch (random.nextInt(9)) {
            case 0: both("ifPan", in(0, 3), in(0, 1)); break;
            case 1: both("ifServed", in(1, 24), in(0, 1)); break;
            case 2: both("bestRule"); break;
            case 3: both("bestServings", in(1, 12), in(1, 24)); break;
            case 4: both("slack", step()); break;
            case 5: both("simulate", random.nextLong(), in(1, 60)); break;
            case 6: both("runScript", in(1, 3), random.nextLong()); break;
            default:
                int n = in(1, 3);
                both("runScript", n, RandomText.script(random, n));
                break;
        }
    }

    /** A number from least to most, now and then one beside that. */
    private int in(int least, int most) {
        int kind = random.nextInt(30);
        if (kind == 0) return least - 1;
        if (kind == 1) return most + 1;
        if (kind == 2) return random.nextBoolean() ? Integer.MIN_VALUE : Integer.MAX_VALUE;
        return least + random.nextInt(most - least + 1);
    }

    private int step() {
        return in(0, Math.max(0, y.about(1) - 1));
    }

    private int some() {
        return in(0, Math.max(0, y.about(0) - 1));
    }

    private int grains() {
        return random.nextInt(3) == 0 ? in(1, 50000) : in(1, 800);
    }

    private void both(String name, Object... arguments) {
        if (calls == CALLS) {
            return;
        }
        calls++;
        compared++;
        String got = outcome(x, name, arguments);
        String want = outcome(y, name, arguments);
        if (!want.equals(got)) {
            wrong++;
            System.out.println("run " + run + ", call " + calls + ": " + name + Arrays.toString(arguments)
                + " answered " + got + ", due is " + want);
        }
    }

    private static String outcome(Object object, String name, Object... arguments) {
        try {
            return "" + METHODS.get(object.getClass().getName() + name + arguments.length).invoke(object, arguments);
        } catch (InvocationTargetException thrown) {
            return thrown.getCause().getClass().getSimpleName();
        } catch (IllegalAccessException hidden) {
            return "cannot be called";
        }
    }
}
