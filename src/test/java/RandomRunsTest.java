import java.lang.reflect.InvocationTargetException;
import java.lang.reflect.Method;
import java.lang.reflect.Modifier;
import java.util.ArrayList;
import java.util.Arrays;
import java.util.Comparator;
import java.util.List;

/** Long runs of calls, right and wrong ones, whose answers the plain clock must give too. */
public final class RandomRunsTest {
    private static final int RUNS = 400;
    private static final int CALLS = 512;
    private static long seed = 20261119L;

    /** A fixed row of numbers, so that each run of this test asks the same. */
    private static int below(int bound) {
        seed = seed * 6364136223846793005L + 1442695040888963407L;
        return (int) Long.remainderUnsigned(seed >>> 33, bound);
    }

    private static int between(int least, int most) {
        return least + below(most - least + 1);
    }

    /** Mostly a number of the range, at times one at its edge, and at times one just or far outside. */
    private static int about(int least, int most) {
        switch (below(24)) {
            case 0:
                return least - 1;
            case 1:
                return most + 1;
            case 2:
                return least;
            case 3:
                return most;
            case 4:
                return below(8) == 0 ? (below(2) == 0 ? Integer.MIN_VALUE : Integer.MAX_VALUE) : between(least, most);
            default:
                return between(least, most);
        }
    }

    private static Object[] arguments(String name, PlainClock clock, int style) {
        switch (name) {
            case "addWheel":
                return new Object[] {about(6, 120), about(6, 24)};
            case "moved":
            case "wholeTurns":
            case "beatsForTurn":
                return new Object[] {about(0, clock.wheels() - 1)};
            case "movedAhead":
            case "movedByBeats":
                return new Object[] {about(0, clock.wheels() - 1), about(1, 5000)};
            case "setBeat":
                return new Object[] {about(1, 20), about(1, style % 3 == 0 ? 3 : 20)};
            case "pass":
            case "strokesAhead":
            case "strokesByBeats":
                return new Object[] {below(3) == 0 ? between(1, 100) : about(1, 5000)};
            case "owe":
                return new Object[] {below(3) == 0 ? between(-40, 40) : about(-600, 600)};
            case "setBound":
                return new Object[] {about(0, 30)};
            case "setDate":
                return new Object[] {about(1600, 3000), about(1, 12), below(3) == 0 ? between(27, 32) : about(1, 31)};
            case "numberOf":
            case "numberByCounting":
                return new Object[] {about(1, 3000), about(1, 12), below(3) == 0 ? between(27, 32) : about(1, 31)};
            case "isLeap":
                return new Object[] {below(2) == 0 ? 100 * about(1, 30) : about(1, 3000)};
            case "setSilence":
                return new Object[] {about(0, 23), about(0, 23)};
            case "setQuarters":
                return new Object[] {below(3) != 0};
            case "setPin":
                int step = about(0, style % 2 == 0 ? 3 : 31);
                return new Object[] {about(0, 3), step, about(1, 8), below(4) != 0};
            case "pins":
                return new Object[] {about(0, 3)};
            case "bellAt":
                return new Object[] {about(0, 3), about(0, 20)};
            case "setTune":
                return new Object[] {about(0, 23), about(-1, 3)};
            case "strokes":
                return new Object[] {about(0, 8)};
            case "markAt":
                return new Object[] {about(0, 39)};
            case "strokesAt":
                boolean isNearLatest = clock.strikes() > 0 && below(8) != 0;
                return new Object[] {isNearLatest ? clock.markAt(0) - between(-1, 45) : about(0, 5)};
            default:
                return new Object[0];
        }
    }

    private static String answer(Object clock, Method method, Object[] arguments) {
        try {
            Method own = clock.getClass().getMethod(method.getName(), method.getParameterTypes());
            return String.valueOf(own.invoke(clock, arguments));
        } catch (InvocationTargetException thrown) {
            Throwable cause = thrown.getCause();
            return clock instanceof MinsterClock ? Check.told(cause) : "throws " + cause.getClass().getSimpleName();
        } catch (ReflectiveOperationException missing) {
            return missing.toString();
        }
    }

    /** All calls of the face, those that move the clock or fill the drums more than once. */
    private static List<Method> methods() {
        List<Method> methods = new ArrayList<>();
        for (Method method : MinsterClock.class.getDeclaredMethods()) {
            for (int i = 0; i < timesInList(method); i++) {
                methods.add(method);
            }
        }
        methods.sort(Comparator.comparing(Method::getName));
        return methods;
    }

    private static int timesInList(Method method) {
        if (!Modifier.isPublic(method.getModifiers())) {
            return 0;
        }
        switch (method.getName()) {
            case "pass":
                return 12;
            case "owe":
            case "setPin":
                return 5;
            case "setTune":
            case "strokesAhead":
            case "strokesByBeats":
            case "strokesAt":
            case "shown":
                return 3;
            default:
                return 1;
        }
    }

    public static void main(String[] args) {
        List<Method> methods = methods();
        long passedSeconds = 0;
        long strikes = 0;
        for (int run = 0; run < RUNS; run++) {
            MinsterClock clock = new MinsterClock();
            PlainClock plain = new PlainClock();
            List<String> story = new ArrayList<>();
            for (int call = 0; call < CALLS; call++) {
                Method method = methods.get(below(methods.size()));
                Object[] arguments = arguments(method.getName(), plain, run);
                String want = answer(plain, method, arguments);
                String got = answer(clock, method, arguments);
                String told = method.getName() + Arrays.toString(arguments);
                story.add(told + " = " + want);
                Check.same("run " + run + ", call " + call + ", " + told, got, want);
                if (!got.equals(want)) {
                    System.out.println(String.join("\n", story));
                    Check.end("RandomRunsTest");
                }
            }
            passedSeconds += plain.shown();
            strikes += plain.strikes();
        }
        // Runs that hardly move the clock would prove little.
        Check.same("the runs go on for days", passedSeconds / RUNS > 2 * 86400, true);
        Check.same("the runs strike often", strikes / RUNS > 100, true);
        Check.end("RandomRunsTest");
    }
}
