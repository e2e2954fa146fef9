import java.lang.reflect.InvocationTargetException;
import java.lang.reflect.Method;
import java.lang.reflect.Modifier;
import java.util.Arrays;

/** All promises: runs of calls drawn by a fixed rule, each answer compared with the one of the model. */
public final class ModelTest {
    private static final int RUNS = 300;
    /** And the digest behind them, which makes 512. */
    private static final int CALLS = 511;
    private static final String[] NAMES = {"rock", "dig", "wall", "clear", "cell", "carp", "sell", "told", "gate",
        "about", "invite", "lead", "lines", "count", "pass", "foresee", "advise", "finest", "mean", "digest"};
    /** How often each call is drawn, in runs of either kind: with many days, and with few. */
    private static final int[][] SHARES = {
        {12, 12, 5, 8, 4, 16, 8, 6, 3, 8, 3, 4, 3, 6, 6, 2, 1, 1, 1, 6},
        {10, 14, 4, 12, 6, 12, 5, 6, 5, 10, 4, 4, 3, 6, 2, 1, 1, 2, 2, 8}};
    private static final int[] STRANGE = {-1, 10, 7, 30, 61, Integer.MIN_VALUE, Integer.MAX_VALUE, -2, 11};

    private static final int[] ANSWERED = new int[NAMES.length];

    private static long state;

    public static void main(String[] args) {
        Check check = new Check("All promises, drawn runs");
        check.test("each answer is the one of the model", () -> drawRuns(check));
        check.test("each call answers, and is not only refused", () -> dueAnswers(check));
        check.end();
    }

    private static void drawRuns(Check check) {
        for (int run = 0; run < RUNS; run++) {
            state = 77777L * (run + 1);
            MoonGate garden = new MoonGate();
            Model model = new Model();
            boolean narrow = run % 3 == 0;
            for (int call = 0; call < CALLS; call++) {
                int name = drawName(SHARES[run % 2]);
                int[] a = drawArguments(name, narrow);
                String got = answer(garden, name, a);
                String want = answer(model, name, a);
                ANSWERED[name] += got.startsWith("throws") ? 0 : 1;
                if (!got.equals(want)) {
                    System.out.println("run " + run + ", call " + call + ": " + NAMES[name]
                        + Arrays.toString(a) + " answered " + got + ", due is " + want);
                    check.due(NAMES[name], 1, 0);
                    break;
                }
            }
            check.due("digest of run " + run, model.digest(), garden.digest());
        }
    }

    private static void dueAnswers(Check check) {
        for (int name = 0; name < NAMES.length; name++) {
            check.due("enough calls of " + NAMES[name] + " answer: " + ANSWERED[name], 1, ANSWERED[name] > 200 ? 1 : 0);
        }
    }

    private static int draw(int below) {
        state = state * 6364136223846793005L + 1442695040888963407L;
        return (int) ((state >>> 33) % below);
    }

    private static int drawName(int[] shares) {
        int sum = 0;
        for (int share : shares) {
            sum += share;
        }
        int at = draw(sum);
        int name = 0;
        while (at >= shares[name]) {
            at -= shares[name];
            name++;
        }
        return name;
    }

    private static int near(int below) {
        return draw(60) == 0 ? STRANGE[draw(STRANGE.length)] : draw(below);
    }

    private static int[] drawArguments(int name, boolean narrow) {
        int x = near(narrow ? 5 : 10);
        int y = near(narrow ? 3 : 7);
        switch (NAMES[name]) {
            case "rock":
                return new int[] {x, y, near(6), draw(4) == 0 ? near(11) : 1 + near(3)};
            case "cell":
                return new int[] {x, y, near(5)};
            case "told":
                return new int[] {near(16), near(5)};
            case "gate":
                return new int[] {x, y, near(4)};
            case "about":
                return new int[] {near(6), near(5)};
            case "lead":
                return new int[] {near(5), near(6)};
            case "sell":
                return new int[] {near(16)};
            case "invite":
            case "lines":
                return new int[] {near(5)};
            case "count":
                return new int[] {near(11)};
            case "pass":
                return new int[] {draw(3) == 0 ? near(62) : 1 + near(5)};
            case "foresee":
                int[] whats = {2, 7, 10, 3};
                return new int[] {near(62), whats[draw(4)]};
            case "advise":
                return new int[] {near(6), near(6), near(10)};
            default:
                return new int[] {x, y};
        }
    }

    /** Calls the one or the other by the name, for both have the same methods. */
    private static String answer(Object subject, int name, int[] drawn) {
        for (Method method : subject.getClass().getDeclaredMethods()) {
            if (method.getName().equals(NAMES[name]) && !Modifier.isPrivate(method.getModifiers())) {
                Object[] arguments = new Object[method.getParameterCount()];
                for (int i = 0; i < arguments.length; i++) {
                    arguments[i] = drawn[i];
                }
                try {
                    return String.valueOf(method.invoke(subject, arguments));
                } catch (IllegalAccessException e) {
                    return "hidden " + NAMES[name];
                } catch (InvocationTargetException e) {
                    return "throws " + e.getCause().getClass().getName();
                }
            }
        }
        return "no " + NAMES[name];
    }
}
