/** Promise 10: gate. */
public final class Promise10GateTest {
    private static final Check CHECK = new Check("Promise 10, gate");

    public static void main(String[] args) {
        CHECK.test("its number is returned, from 0 to 5", Promise10GateTest::numbers);
        CHECK.test("it looks 0 above, 1 to the right, 2 below, 3 to the left", Promise10GateTest::directions);
        CHECK.test("it stands in a cell, whatever this is", Promise10GateTest::standsAnywhere);
        CHECK.test("it costs no coins, and the cell stays", Promise10GateTest::changesNoMore);
        CHECK.test("x is not 0 to 9", () -> CHECK.refusedBeyondX("gate", (m, x, y) -> m.gate(x, y, 0)));
        CHECK.test("y is not 0 to 6", () -> CHECK.refusedBeyondY("gate", (m, x, y) -> m.gate(x, y, 3)));
        CHECK.test("x and y wrap around to no cell", () -> CHECK.refusedAtNoCell("gate", (m, x, y) -> m.gate(x, y, 1)));
        CHECK.test("x is 0 and 9, y is 0 and 6", Promise10GateTest::corners);
        CHECK.test("direction is not 0 to 3", Promise10GateTest::noDirection);
        CHECK.test("there are 6", Promise10GateTest::six);
        CHECK.test("the exception that is named first is thrown", Promise10GateTest::firstNamed);
        CHECK.end();
    }

    private static void numbers() {
        MoonGate m = new MoonGate();
        for (int gate = 0; gate < 6; gate++) {
            CHECK.due("gates before", gate, m.count(8));
            CHECK.due("gate", gate, m.gate(9 - gate, gate, gate % 4));
        }
        CHECK.due("gates", 6, m.count(8));
    }

    private static void directions() {
        MoonGate m = new MoonGate();
        m.rock(3, 0, 0, 1);
        m.rock(9, 2, 1, 2);
        m.rock(3, 6, 2, 3);
        m.rock(0, 2, 3, 4);
        for (int direction = 0; direction < 4; direction++) {
            CHECK.due("gate", direction, m.gate(3, 2, direction));
        }
        CHECK.dueAbout(m, 0, 2, 1, 0, 5, 0);
        CHECK.dueAbout(m, 1, 6, 1, 0, 6, 0);
        CHECK.dueAbout(m, 2, 4, 1, 0, 7, 0);
        CHECK.dueAbout(m, 3, 3, 1, 0, 8, 0);
    }

    private static void standsAnywhere() {
        MoonGate m = new MoonGate();
        m.rock(0, 0, 0, 9);
        m.dig(0, 1);
        m.wall(0, 2);
        CHECK.due("gate in a rock", 0, m.gate(0, 0, 1));
        CHECK.due("gate in a pond", 1, m.gate(0, 1, 1));
        CHECK.due("gate in a wall", 2, m.gate(0, 2, 1));
        CHECK.due("gate where another stands", 3, m.gate(0, 2, 1));
        for (int gate = 0; gate < 4; gate++) {
            CHECK.dueAbout(m, gate, 9, 0, 0, 0, 0);
        }
    }

    private static void changesNoMore() {
        MoonGate m = Gardens.withCoins(0);
        CHECK.due("gate without coins", 0, m.gate(0, 0, 1));
        CHECK.due("coins", 0, m.count(2));
        CHECK.dueCell(m, 0, 0, 0, -1, 0, 0, 0);
        MoonGate busy = Gardens.busy();
        busy.gate(5, 0, 1);
        CHECK.dueCell(busy, 5, 0, 1, 1, 6, 0, 0);
        busy.clear(5, 0);
        CHECK.due("a gate's cell can be cleared", 4, busy.count(8));
    }

    private static void corners() {
        MoonGate m = new MoonGate();
        CHECK.due("gate(0, 0, 2)", 0, m.gate(0, 0, 2));
        CHECK.due("gate(9, 0, 3)", 1, m.gate(9, 0, 3));
        CHECK.due("gate(0, 6, 1)", 2, m.gate(0, 6, 1));
        CHECK.due("gate(9, 6, 0)", 3, m.gate(9, 6, 0));
        CHECK.dueAbout(m, 0, 6, 0, 0, 0, 0);
        CHECK.dueAbout(m, 1, 9, 0, 0, 0, 0);
        CHECK.dueAbout(m, 2, 9, 0, 0, 0, 0);
        CHECK.dueAbout(m, 3, 6, 0, 0, 0, 0);
    }

    private static void noDirection() {
        CHECK.refusedBeyond(Check.SENSELESS, "gate(0, 0, direction)", 0, 3, (m, to) -> m.gate(0, 0, to));
        CHECK.refusedBeyond(Check.SENSELESS, "gate(9, 6, direction)", 0, 3, (m, to) -> m.gate(9, 6, to));
    }

    private static void six() {
        for (int direction = 0; direction < 4; direction++) {
            int to = direction;
            CHECK.refused(Check.UNTIMELY, "the 7th gate", Gardens::most, m -> m.gate(4, 2, to));
        }
        CHECK.refused(Check.UNTIMELY, "the 7th gate", () -> {
            MoonGate m = new MoonGate();
            for (int gate = 0; gate < 6; gate++) {
                m.gate(0, 0, 1);
            }
            return m;
        }, m -> m.gate(0, 0, 1));
    }

    private static void firstNamed() {
        CHECK.eachCombination("gate", (m, a) -> m.gate(a[0], a[1], a[2]), (m, a) -> {
            if (Check.noCell(a[0], a[1])) {
                return Check.OUTSIDE;
            }
            if (a[2] < 0 || a[2] > 3) {
                return Check.SENSELESS;
            }
            return m.count(8) >= 6 ? Check.UNTIMELY : null;
        }, Check.XS, Check.YS, new int[] {-1, 0, 3, 4});
    }
}
