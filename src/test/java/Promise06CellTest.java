/** Promise 6: cell. */
public final class Promise06CellTest {
    private static final Check CHECK = new Check("Promise 6, cell");

    public static void main(String[] args) {
        CHECK.test("0: 0 if it is bare, 1 a rock, 2 a pond, 3 a wall", Promise06CellTest::kinds);
        CHECK.test("1: the shape of its rock, -1 without one", Promise06CellTest::shapes);
        CHECK.test("2: the size of its rock, 0 without one", Promise06CellTest::sizes);
        CHECK.test("3: the cells of its pond, 0 without one", Promise06CellTest::cellsOfThePond);
        CHECK.test("4: the carps of its pond, 0 without one", Promise06CellTest::carpsOfThePond);
        CHECK.test("carps that are sold are not told", Promise06CellTest::soldCarps);
        CHECK.test("a pond of all 70 cells, with 30 carps", Promise06CellTest::greatestPond);
        CHECK.test("a pond of one cell, with 30 carps", Promise06CellTest::fullestPond);
        CHECK.test("x is not 0 to 9", () -> CHECK.refusedBeyondX("cell", (m, x, y) -> m.cell(x, y, 0)));
        CHECK.test("y is not 0 to 6", () -> CHECK.refusedBeyondY("cell", (m, x, y) -> m.cell(x, y, 4)));
        CHECK.test("x and y wrap around to no cell", () -> CHECK.refusedAtNoCell("cell", (m, x, y) -> m.cell(x, y, 2)));
        CHECK.test("what is not 0 to 4", Promise06CellTest::notTold);
        CHECK.test("x is 0 and 9, y is 0 and 6, what is 0 and 4", Promise06CellTest::corners);
        CHECK.test("nothing is changed", Promise06CellTest::changesNothing);
        CHECK.end();
    }

    private static MoonGate oneOfEach() {
        MoonGate m = new MoonGate();
        m.rock(1, 2, 3, 4);
        m.dig(2, 2);
        m.wall(3, 2);
        return m;
    }

    private static void kinds() {
        MoonGate m = oneOfEach();
        for (int x = 0; x < 4; x++) {
            CHECK.due("cell(" + x + ", 2, 0)", x, m.cell(x, 2, 0));
        }
    }

    private static void shapes() {
        MoonGate m = oneOfEach();
        int[] want = {-1, 3, -1, -1};
        for (int x = 0; x < 4; x++) {
            CHECK.due("cell(" + x + ", 2, 1)", want[x], m.cell(x, 2, 1));
        }
        for (int shape = 0; shape <= 5; shape++) {
            m.rock(shape, 6, shape, 1);
            CHECK.due("cell of a rock of the shape " + shape, shape, m.cell(shape, 6, 1));
        }
    }

    private static void sizes() {
        MoonGate m = oneOfEach();
        int[] want = {0, 4, 0, 0};
        for (int x = 0; x < 4; x++) {
            CHECK.due("cell(" + x + ", 2, 2)", want[x], m.cell(x, 2, 2));
        }
        for (int size = 1; size <= 9; size++) {
            MoonGate other = new MoonGate();
            other.rock(size, 6, 0, size);
            CHECK.due("cell of a rock of the size " + size, size, other.cell(size, 6, 2));
        }
    }

    private static void cellsOfThePond() {
        MoonGate m = oneOfEach();
        int[] want = {0, 0, 1, 0};
        for (int x = 0; x < 4; x++) {
            CHECK.due("cell(" + x + ", 2, 3)", want[x], m.cell(x, 2, 3));
        }
        m.dig(2, 3);
        m.dig(9, 6);
        CHECK.due("cell(2, 2, 3)", 2, m.cell(2, 2, 3));
        CHECK.due("cell(2, 3, 3)", 2, m.cell(2, 3, 3));
        CHECK.due("cell(9, 6, 3)", 1, m.cell(9, 6, 3));
    }

    private static void carpsOfThePond() {
        MoonGate m = oneOfEach();
        for (int x = 0; x < 4; x++) {
            CHECK.due("cell(" + x + ", 2, 4)", 0, m.cell(x, 2, 4));
        }
        m.dig(2, 3);
        m.dig(9, 6);
        m.carp(2, 2);
        m.carp(2, 3);
        m.carp(2, 3);
        CHECK.due("cell(2, 2, 4)", 3, m.cell(2, 2, 4));
        CHECK.due("cell(2, 3, 4)", 3, m.cell(2, 3, 4));
        CHECK.due("cell(9, 6, 4)", 0, m.cell(9, 6, 4));
        m.dig(1, 3);
        CHECK.due("cell(1, 3, 4)", 3, m.cell(1, 3, 4));
    }

    private static void soldCarps() {
        MoonGate m = new MoonGate();
        m.dig(0, 0);
        m.carp(0, 0);
        m.carp(0, 0);
        m.sell(0);
        CHECK.due("cell(0, 0, 4)", 1, m.cell(0, 0, 4));
        m.sell(1);
        CHECK.due("cell(0, 0, 4)", 0, m.cell(0, 0, 4));
        m.dig(1, 0);
        CHECK.due("cell(1, 0, 4)", 0, m.cell(1, 0, 4));
    }

    private static void greatestPond() {
        MoonGate m = Gardens.rich(420 + 120);
        for (int place = 0; place < 70; place++) {
            m.dig(place % 10, place / 10);
        }
        for (int carp = 0; carp < 30; carp++) {
            m.carp(carp % 10, carp % 7);
        }
        for (int place = 0; place < 70; place++) {
            CHECK.due("cells", 70, m.cell(place % 10, place / 10, 3));
            CHECK.due("carps", 30, m.cell(place % 10, place / 10, 4));
        }
    }

    private static void fullestPond() {
        MoonGate m = Gardens.rich(126);
        m.dig(4, 3);
        for (int carp = 0; carp < 30; carp++) {
            m.carp(4, 3);
        }
        CHECK.dueCell(m, 4, 3, 2, -1, 0, 1, 30);
    }

    private static void notTold() {
        CHECK.refusedBeyond(Check.OUTSIDE, "cell(0, 0, what)", 0, 4, (m, what) -> m.cell(0, 0, what));
        CHECK.refusedBeyond(Check.OUTSIDE, "cell(4, 2, what)", 0, 4, (m, what) -> m.cell(4, 2, what));
    }

    private static void corners() {
        int[][] corners = {{0, 0}, {9, 0}, {0, 6}, {9, 6}};
        for (int[] at : corners) {
            MoonGate m = new MoonGate();
            m.dig(at[0], at[1]);
            m.carp(at[0], at[1]);
            CHECK.dueCell(m, at[0], at[1], 2, -1, 0, 1, 1);
            for (int[] other : corners) {
                if (other != at) {
                    CHECK.dueCell(m, other[0], other[1], 0, -1, 0, 0, 0);
                }
            }
        }
    }

    private static void changesNothing() {
        for (Check.Maker maker : Gardens.EACH) {
            for (int what = 0; what < 5; what++) {
                int told = what;
                CHECK.changesNothing("cell(4, 2, " + told + ")", maker, m -> m.cell(4, 2, told));
            }
        }
    }
}
