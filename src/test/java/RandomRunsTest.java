import java.lang.reflect.InvocationTargetException;
import java.lang.reflect.Method;
import java.util.ArrayList;
import java.util.Arrays;
import java.util.List;
import java.util.Random;

/** Runs of 512 calls out of a fixed seed, each answer or exception held against the model's. */
public final class RandomRunsTest extends Checks {
    private static final int RUNS = 400;
    private static final int CALLS = 512;
    /** So that the coracles are made, and most of them tied, before they sink. */
    private static final int FIRST_CALLS = 10;
    private static final String[] FIRST_NAMES = {"make", "make", "make", "net", "setDrift", "setRun", "send"};

    private static final String[] NAMES = {
        "setDrift", "setRun", "buy", "make", "net", "send", "send", "send", "send", "tar", "tar", "tar", "land", "land",
        "about", "told", "reach", "count", "pass", "pass", "pass", "meets", "sinks", "foresee", "advise", "mean",
        "digest", "digest", "digest"};

    private static final class Step {
        final Method ofClass;
        final Method ofModel;
        final Object[] arguments;

        Step(Method ofClass, Method ofModel, Object[] arguments) {
            this.ofClass = ofClass;
            this.ofModel = ofModel;
            this.arguments = arguments;
        }

        String text() {
            return ofClass.getName() + Arrays.toString(arguments);
        }
    }

    public static void main(String[] args) throws ReflectiveOperationException {
        for (int seed = 0; seed < RUNS && !isWrongOften(); seed++) {
            oneRun(seed);
        }
        end();
    }

    private static void oneRun(int seed) throws ReflectiveOperationException {
        test("run " + seed);
        Random random = new Random(seed);
        CoracleMakers x = new CoracleMakers();
        Model model = new Model();
        List<String> done = new ArrayList<>();
        for (int i = 0; i < CALLS; i++) {
            Step step = i == CALLS - 1 ? stepOf(random, "digest") : anyStep(random, i);
            done.add(step.text());
            String want = answer(model, step.ofModel, step.arguments);
            String got = answer(x, step.ofClass, step.arguments);
            isText("behind " + done, got, want);
            if (!got.equals(want)) {
                return;
            }
        }
    }

    private static Step anyStep(Random random, int at) throws ReflectiveOperationException {
        String[] names = at < FIRST_CALLS ? FIRST_NAMES : NAMES;
        return stepOf(random, names[random.nextInt(names.length)]);
    }

    private static Step stepOf(Random random, String name) throws ReflectiveOperationException {
        int[][] ranges = rangesOf(name, random);
        Class<?>[] types = new Class<?>[ranges.length];
        Object[] arguments = new Object[ranges.length];
        for (int i = 0; i < ranges.length; i++) {
            types[i] = int.class;
            arguments[i] = anyNumber(random, ranges[i][0], ranges[i][1]);
        }
        return new Step(CoracleMakers.class.getMethod(name, types), Model.class.getMethod(name, types), arguments);
    }

    /** The least and the most of each argument; goals and hours are often few, so that crews come back in time. */
    private static int[][] rangesOf(String name, Random random) {
        boolean often = random.nextInt(3) > 0;
        switch (name) {
            case "setDrift": return new int[][] {{0, 7}, {0, 5}};
            case "setRun": return new int[][] {{0, 7}, {0, 9}};
            case "buy": return new int[][] {{0, 3}, {1, often ? 4 : 40}};
            case "make": return new int[][] {{4, often ? 9 : 12}, {0, 2}, {1, 6}};
            case "net": return new int[][] {{0, 5}, {0, 5}};
            case "send": return new int[][] {{0, 5}, {0, often ? 1 : 15}};
            case "tar": case "land": case "sinks": return new int[][] {{0, 5}};
            case "about": return new int[][] {{0, 5}, {0, 9}};
            case "told": return new int[][] {{0, 2}, {0, 3}};
            case "reach": return new int[][] {{0, 15}, {0, 1}};
            case "count": return new int[][] {{0, 12}};
            case "pass": return new int[][] {{1, often ? 2 : random.nextInt(15) == 0 ? 40 : 4}};
            case "meets": return new int[][] {{0, 2}};
            case "foresee": return new int[][] {{1, 40}, {0, 12}};
            case "advise": return new int[][] {{0, 2}, {1, 10}};
            default: return new int[0][];
        }
    }

    /** Mostly what is allowed; at times one more or less than that, or any number at all. */
    private static int anyNumber(Random random, int least, int most) {
        switch (random.nextInt(40)) {
            case 0: return least - 1;
            case 1: return most + 1;
            case 2: return outside(least, most)[random.nextInt(4)];
            case 3: return random.nextInt();
            default: return least + random.nextInt(most - least + 1);
        }
    }

    private static String answer(Object target, Method method, Object[] arguments) throws IllegalAccessException {
        try {
            return String.valueOf(method.invoke(target, arguments));
        } catch (InvocationTargetException e) {
            return e.getCause().getClass().getName();
        }
    }
}
