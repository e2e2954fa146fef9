import java.util.Arrays;
import java.util.List;
import java.util.function.ToIntFunction;

/** The tests of one promise, each under the sentence that it holds to; counts the answers that are not due. */
final class Check {
    interface Maker {
        MoonGate make();
    }

    interface Call {
        Object on(MoonGate garden);
    }

    interface CallWith {
        Object on(MoonGate garden, int argument);
    }

    interface CallAt {
        Object on(MoonGate garden, int x, int y);
    }

    interface CallOf {
        Object on(MoonGate garden, int[] arguments);
    }

    /** What a call is to throw in this garden with these arguments, or null. */
    interface Rule {
        Class<? extends RuntimeException> due(MoonGate garden, int[] arguments);
    }

    static final Class<? extends RuntimeException> OUTSIDE = IndexOutOfBoundsException.class;
    static final Class<? extends RuntimeException> SENSELESS = IllegalArgumentException.class;
    static final Class<? extends RuntimeException> UNTIMELY = IllegalStateException.class;

    /** Values about the bounds of x, y, a shape, a size and a direction. */
    static final int[] XS = {Integer.MIN_VALUE, -1, 0, 4, 9, 10, Integer.MAX_VALUE};
    static final int[] YS = {Integer.MIN_VALUE, -1, 0, 2, 6, 7, Integer.MAX_VALUE};
    static final int[] SHAPES = {-1, 0, 5, 6};
    static final int[] SIZES = {0, 1, 9, 10};

    /** Pairs of x and y that are no cell, though 10 * y + x is one's number, as an int wraps around. */
    private static final int[][] NO_CELLS = {{10, 0}, {-1, 1}, {-10, 2}, {69, 0}, {-21, 9}, {70, -1}, {0, 429496730},
        {3, 858993460}, {-4, -429496729}, {Integer.MAX_VALUE, -214748364}};

    private static final int MOST_SECONDS = 300;

    private final String promise;
    private volatile String sentence = "";
    private Maker lastMaker = null;
    private List<String> lastAnswers = List.of();
    private List<String> lastBackwards = List.of();
    private int tests = 0;
    private int asked = 0;
    private int wrong = 0;

    Check(String promise) {
        this.promise = promise;
        Thread watch = new Thread(this::failWhenTimeIsUp);
        watch.setDaemon(true);
        watch.start();
    }

    /** A call that does not end is to fail its test, and not to hold up the others. */
    private void failWhenTimeIsUp() {
        try {
            Thread.sleep(1000L * MOST_SECONDS);
        } catch (InterruptedException e) {
            return;
        }
        System.out.println(promise + ": " + sentence + ": did not end");
        Runtime.getRuntime().halt(1);
    }

    /** Goes on to the next test if one throws, so that one broken sentence hides no other. */
    void test(String sentence, Runnable body) {
        this.sentence = sentence;
        int before = asked;
        tests++;
        try {
            body.run();
        } catch (RuntimeException | StackOverflowError e) {
            miss("threw " + e);
        }
        if (asked == before) {
            miss("asked nothing");
        }
    }

    void end() {
        System.out.println(promise + ": " + tests + " tests, " + asked + " answers asked, " + wrong + " not as due");
        if (wrong != 0 || tests == 0) {
            System.exit(1);
        }
    }

    private void miss(String what) {
        wrong++;
        System.out.println(promise + ": " + sentence + ": " + what);
    }

    void due(String call, long want, long got) {
        dueObject(call, want, got);
    }

    void dueDouble(String call, double want, double got) {
        dueObject(call, want, got);
    }

    void dueObject(String call, Object want, Object got) {
        asked++;
        if (!want.equals(got)) {
            miss(call + " answered " + got + ", due is " + want);
        }
    }

    void dueCell(MoonGate m, int x, int y, int... want) {
        for (int what = 0; what < 5; what++) {
            due("cell(" + x + ", " + y + ", " + what + ")", want[what], m.cell(x, y, what));
        }
    }

    void dueTold(MoonGate m, int carp, int... want) {
        for (int what = 0; what < 5; what++) {
            due("told(" + carp + ", " + what + ")", want[what], m.told(carp, what));
        }
    }

    void dueAbout(MoonGate m, int gate, int... want) {
        for (int what = 0; what < 5; what++) {
            due("about(" + gate + ", " + what + ")", want[what], m.about(gate, what));
        }
    }

    /**
     * The call is to throw just this class (what the machine throws is of a class below it), and to change
     * nothing: an untouched garden answers all later calls alike.
     */
    void refused(Class<? extends RuntimeException> kind, String call, Maker maker, Call refused) {
        asked++;
        changesNothing(call, maker, garden -> {
            try {
                miss(call + " answered " + refused.on(garden) + ", due is " + kind.getSimpleName());
            } catch (RuntimeException e) {
                if (e.getClass() != kind) {
                    miss(call + " threw " + e + ", due is " + kind.getSimpleName());
                }
            }
            return garden;
        });
    }

    /** The call is to change nothing: an untouched garden answers all later calls alike. */
    void changesNothing(String call, Maker maker, Call asking) {
        dueUnchanged(call, maker, asking, false);
        dueUnchanged(call, maker, asking, true);
    }

    private void dueUnchanged(String call, Maker maker, Call asking, boolean backwards) {
        asked++;
        MoonGate garden = maker.make();
        asking.on(garden);
        List<String> want = untouchedAnswers(maker, backwards);
        List<String> got = Later.answers(garden, backwards);
        for (int i = 0; i < want.size(); i++) {
            if (!want.get(i).equals(got.get(i))) {
                miss(call + " changed something: later " + want.get(i) + " was " + got.get(i));
                return;
            }
        }
    }

    /** What a maker makes is always alike, so that many calls in a row need but one untouched garden. */
    private List<String> untouchedAnswers(Maker maker, boolean backwards) {
        if (maker != lastMaker) {
            lastMaker = maker;
            lastAnswers = Later.answers(maker.make(), false);
            lastBackwards = Later.answers(maker.make(), true);
        }
        return backwards ? lastBackwards : lastAnswers;
    }

    /** The values just below and above the bounds, and some that come to lie between them when they are cut. */
    private static int[] beyond(int least, int most) {
        return new int[] {least - 1, most + 1, least - 2, most + 2, least - 256, most + 256, least - 65536,
            least + 65536, Integer.MIN_VALUE, Integer.MIN_VALUE + least + 1, Integer.MAX_VALUE};
    }

    /** In each garden the call is to be refused with every argument that is not least to most. */
    void refusedBeyond(Class<? extends RuntimeException> kind, String name, int least, int most, CallWith call) {
        refusedBeyond(kind, name, least, garden -> most, call);
    }

    void refusedBeyond(Class<? extends RuntimeException> kind, String name, int least,
            ToIntFunction<MoonGate> most, CallWith call) {
        for (Maker maker : Gardens.EACH) {
            for (int wrongOne : beyond(least, most.applyAsInt(maker.make()))) {
                refused(kind, name + " with " + wrongOne, maker, garden -> call.on(garden, wrongOne));
            }
        }
    }

    void refusedBeyondX(String name, CallAt call) {
        for (int y : new int[] {0, 3, 6}) {
            refusedBeyond(OUTSIDE, name + " at y " + y + " and x", 0, 9, (m, x) -> call.on(m, x, y));
        }
    }

    void refusedBeyondY(String name, CallAt call) {
        for (int x : new int[] {0, 4, 9}) {
            refusedBeyond(OUTSIDE, name + " at x " + x + " and y", 0, 6, (m, y) -> call.on(m, x, y));
        }
    }

    void refusedAtNoCell(String name, CallAt call) {
        for (Maker maker : Gardens.EACH) {
            for (int[] at : NO_CELLS) {
                refused(OUTSIDE, name + " at " + at[0] + ", " + at[1], maker, m -> call.on(m, at[0], at[1]));
            }
        }
    }

    /** Each combination of these arguments in each garden: the exception is the one that the rule names first. */
    void eachCombination(String name, CallOf call, Rule rule, int[]... values) {
        for (Maker maker : Gardens.EACH) {
            combine(name, maker, call, rule, values, new int[0]);
        }
    }

    private void combine(String name, Maker maker, CallOf call, Rule rule, int[][] values, int[] chosen) {
        if (chosen.length < values.length) {
            for (int value : values[chosen.length]) {
                int[] more = Arrays.copyOf(chosen, chosen.length + 1);
                more[chosen.length] = value;
                combine(name, maker, call, rule, values, more);
            }
            return;
        }
        String told = name + Arrays.toString(chosen);
        MoonGate garden = maker.make();
        Class<? extends RuntimeException> due = rule.due(garden, chosen);
        if (due != null) {
            refused(due, told, maker, m -> call.on(m, chosen));
        } else {
            asked++;
            call.on(garden, chosen);
        }
    }

    static boolean noCell(int x, int y) {
        return x < 0 || x > 9 || y < 0 || y > 6;
    }

    static boolean noRock(int shape, int size) {
        return shape < 0 || shape > 5 || size < 1 || size > 9;
    }
}
