/** Promise 18: advise. */
public final class Promise18AdviseTest {
    private static final Check CHECK = new Check("Promise 18, advise");

    public static void main(String[] args) {
        CHECK.test("10 * y + x of the cell, of several the least, each way", Promise18AdviseTest::leastOfSeveral);
        CHECK.test("the cells 0 and 69", Promise18AdviseTest::corners);
        CHECK.test("the cell with the greatest beauty, though it is not the least", Promise18AdviseTest::greatest);
        CHECK.test("only a bare cell", Promise18AdviseTest::onlyBare);
        CHECK.test("one bare cell is left", Promise18AdviseTest::oneBareLeft);
        CHECK.test("no cell is bare", Promise18AdviseTest::noneBare);
        CHECK.test("the gate shows no cell", Promise18AdviseTest::showsNoCell);
        CHECK.test("-1 if the beauty is greater by none, the cell if by 1", Promise18AdviseTest::greaterByNone);
        CHECK.test("a rock of size 7 hides, one of size 6 does not", Promise18AdviseTest::hides);
        CHECK.test("whatever coins there are", Promise18AdviseTest::withoutCoins);
        CHECK.test("there is no such gate", Promise18AdviseTest::noSuchGate);
        CHECK.test("shape is not 0 to 5", Promise18AdviseTest::noShape);
        CHECK.test("size is not 1 to 9", Promise18AdviseTest::noSize);
        CHECK.test("shape is 0 and 5, size is 1 and 9", Promise18AdviseTest::leastAndGreatest);
        CHECK.test("the exception that is named first is thrown", Promise18AdviseTest::firstNamed);
        CHECK.test("nothing is changed", Promise18AdviseTest::changesNothing);
        CHECK.end();
    }

    private static void dueAdvice(int want, MoonGate m, int gate, int shape, int size) {
        CHECK.due("advise(" + gate + ", " + shape + ", " + size + ")", want, m.advise(gate, shape, size));
    }

    private static void leastOfSeveral() {
        MoonGate m = new MoonGate();
        for (int direction = 0; direction < 4; direction++) {
            m.gate(4, 3, direction);
        }
        for (int size = 1; size <= 9; size++) {
            dueAdvice(4, m, 0, 0, size);
            dueAdvice(35, m, 1, 0, size);
            dueAdvice(44, m, 2, 0, size);
            dueAdvice(30, m, 3, 0, size);
        }
    }

    private static void corners() {
        MoonGate m = new MoonGate();
        m.gate(2, 0, 3);
        m.gate(0, 2, 0);
        m.gate(8, 6, 1);
        m.gate(9, 5, 2);
        dueAdvice(0, m, 0, 3, 2);
        dueAdvice(0, m, 1, 3, 2);
        dueAdvice(69, m, 2, 3, 2);
        dueAdvice(69, m, 3, 3, 2);
    }

    private static void greatest() {
        MoonGate m = new MoonGate();
        m.gate(0, 0, 1);
        m.rock(2, 0, 0, 5);
        m.rock(5, 0, 1, 3);
        dueAdvice(6, m, 0, 2, 7);
        dueAdvice(6, m, 0, 0, 7);
        dueAdvice(1, m, 0, 2, 6);
        m.dig(9, 0);
        m.dig(8, 0);
        dueAdvice(6, m, 0, 2, 9);
        m.rock(1, 0, 0, 1);
        dueAdvice(3, m, 0, 1, 1);
    }

    private static void onlyBare() {
        MoonGate m = new MoonGate();
        m.gate(0, 0, 1);
        m.gate(5, 0, 2);
        m.rock(2, 0, 3, 1);
        m.dig(1, 0);
        m.wall(3, 0);
        dueAdvice(-1, m, 0, 0, 9);
        for (int y = 1; y < 7; y++) {
            dueAdvice(5 + 10 * y, m, 1, 0, 9);
            m.dig(5, y);
        }
        dueAdvice(-1, m, 1, 0, 9);
    }

    private static MoonGate oneBare(int place) {
        MoonGate m = Gardens.rich(7 * 60);
        m.gate(9, 6, 0);
        for (int other = 0; other < 70; other++) {
            if (other != place) {
                m.dig(other % 10, other / 10);
            }
        }
        return m;
    }

    private static void oneBareLeft() {
        dueAdvice(9, oneBare(9), 0, 0, 1);
        dueAdvice(9, oneBare(9), 1, 0, 1);
        dueAdvice(5, oneBare(5), 0, 0, 1);
        dueAdvice(-1, oneBare(5), 1, 0, 1);
        dueAdvice(-1, oneBare(10), 0, 0, 9);
        dueAdvice(-1, oneBare(0), 0, 0, 9);
        dueAdvice(-1, oneBare(69), 1, 0, 9);
        dueAdvice(59, oneBare(59), 1, 0, 1);
    }

    private static void noneBare() {
        for (int gate = 0; gate < 6; gate++) {
            for (int size = 1; size <= 9; size++) {
                dueAdvice(-1, Gardens.most(), gate, 5, size);
            }
        }
    }

    private static void showsNoCell() {
        MoonGate m = new MoonGate();
        m.gate(0, 0, 0);
        m.gate(0, 0, 3);
        m.gate(9, 6, 1);
        m.gate(9, 6, 2);
        m.gate(4, 3, 1);
        m.wall(5, 3);
        for (int gate = 0; gate < 5; gate++) {
            dueAdvice(-1, m, gate, 0, 9);
        }
    }

    /** A new rock at 1 hides the old one at 2. */
    private static void greaterByNone() {
        MoonGate m = new MoonGate();
        m.gate(0, 0, 1);
        m.rock(2, 0, 0, 8);
        dueAdvice(-1, m, 0, 1, 7);
        dueAdvice(-1, m, 0, 1, 8);
        dueAdvice(1, m, 0, 1, 9);
        dueAdvice(-1, m, 0, 0, 8);
        dueAdvice(1, m, 0, 0, 9);
        m.wall(3, 0);
        dueAdvice(1, m, 0, 0, 1);
    }

    private static void hides() {
        MoonGate m = new MoonGate();
        m.gate(0, 0, 1);
        m.rock(2, 0, 0, 6);
        m.rock(3, 0, 1, 6);
        for (int x = 4; x <= 9; x++) {
            m.wall(x, 0);
        }
        dueAdvice(1, m, 0, 2, 6);
        dueAdvice(-1, m, 0, 2, 7);
        dueAdvice(-1, m, 0, 2, 9);
        m.clear(9, 0);
        dueAdvice(-1, m, 0, 2, 7);
        for (int x = 4; x < 9; x++) {
            m.clear(x, 0);
        }
        dueAdvice(4, m, 0, 2, 7);
    }

    private static void withoutCoins() {
        MoonGate m = Gardens.withCoins(0);
        m.gate(0, 6, 1);
        dueAdvice(61, m, 0, 0, 1);
        dueAdvice(61, m, 0, 0, 9);
        CHECK.due("coins", 0, m.count(2));
    }

    private static void noSuchGate() {
        CHECK.refusedBeyond(Check.OUTSIDE, "advise(gate, 0, 1)", 0, m -> m.count(8) - 1,
            (m, gate) -> m.advise(gate, 0, 1));
    }

    private static MoonGate withGate() {
        MoonGate m = new MoonGate();
        m.gate(0, 6, 1);
        return m;
    }

    private static void noShape() {
        int[] none = {-1, 6, -6, 11, 256, 65536, Integer.MIN_VALUE, Integer.MAX_VALUE};
        Check.Maker[] makers = {Promise18AdviseTest::withGate, Gardens::busy, Gardens::most};
        for (Check.Maker maker : makers) {
            for (int shape : none) {
                CHECK.refused(Check.SENSELESS, "advise(0, " + shape + ", 1)", maker, m -> m.advise(0, shape, 1));
                CHECK.refused(Check.SENSELESS, "advise(0, " + shape + ", 9)", maker, m -> m.advise(0, shape, 9));
            }
        }
    }

    private static void noSize() {
        int[] none = {-1, 0, 10, -9, 19, 257, 65537, Integer.MIN_VALUE, Integer.MIN_VALUE + 1, Integer.MAX_VALUE};
        Check.Maker[] makers = {Promise18AdviseTest::withGate, Gardens::busy, Gardens::most};
        for (Check.Maker maker : makers) {
            for (int size : none) {
                CHECK.refused(Check.SENSELESS, "advise(0, 0, " + size + ")", maker, m -> m.advise(0, 0, size));
                CHECK.refused(Check.SENSELESS, "advise(0, 5, " + size + ")", maker, m -> m.advise(0, 5, size));
            }
        }
    }

    private static void leastAndGreatest() {
        MoonGate m = withGate();
        dueAdvice(61, m, 0, 0, 1);
        dueAdvice(61, m, 0, 0, 9);
        dueAdvice(61, m, 0, 5, 1);
        dueAdvice(61, m, 0, 5, 9);
    }

    private static void firstNamed() {
        CHECK.eachCombination("advise", (m, a) -> m.advise(a[0], a[1], a[2]), (m, a) -> {
            if (a[0] < 0 || a[0] >= m.count(8)) {
                return Check.OUTSIDE;
            }
            return Check.noRock(a[1], a[2]) ? Check.SENSELESS : null;
        }, new int[] {Integer.MIN_VALUE, -1, 0, 2, 3, 5, 6, Integer.MAX_VALUE}, Check.SHAPES, Check.SIZES);
    }

    private static void changesNothing() {
        for (int gate = 0; gate < 3; gate++) {
            for (int size = 1; size <= 9; size++) {
                int one = gate;
                int great = size;
                CHECK.changesNothing("advise", Gardens::busy, m -> m.advise(one, great % 6, great));
            }
        }
    }
}
