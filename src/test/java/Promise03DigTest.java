/** Promise 3: dig. */
public final class Promise03DigTest {
    private static final Check CHECK = new Check("Promise 3, dig");

    public static void main(String[] args) {
        CHECK.test("a pond cell costs 6 coins", Promise03DigTest::costsSix);
        CHECK.test("how many cells its pond has then is returned", Promise03DigTest::joinsPonds);
        CHECK.test("pond cells above, to the right, below, to the left are neighbours", Promise03DigTest::neighbours);
        CHECK.test("pond cells aslant or with a cell between are no neighbours", Promise03DigTest::noNeighbours);
        CHECK.test("the rims are no neighbours of one another", Promise03DigTest::rimsAreApart);
        CHECK.test("rocks and walls are of no pond", Promise03DigTest::rocksAndWalls);
        CHECK.test("a pond of any form hangs together", Promise03DigTest::anyForm);
        CHECK.test("a pond of all 70 cells", Promise03DigTest::wholeGarden);
        CHECK.test("x is not 0 to 9", () -> CHECK.refusedBeyondX("dig", MoonGate::dig));
        CHECK.test("y is not 0 to 6", () -> CHECK.refusedBeyondY("dig", MoonGate::dig));
        CHECK.test("x and y wrap around to no cell", () -> CHECK.refusedAtNoCell("dig", MoonGate::dig));
        CHECK.test("x is 0 and 9, y is 0 and 6", Promise03DigTest::corners);
        CHECK.test("the cell is a rock, a pond or a wall", Promise03DigTest::notBare);
        CHECK.test("no cell of the garden is bare", Promise03DigTest::noneBare);
        CHECK.test("there are less than 6 coins", Promise03DigTest::lessThanSix);
        CHECK.test("there are just 6 coins", Promise03DigTest::justSix);
        CHECK.test("the exception that is named first is thrown", Promise03DigTest::firstNamed);
        CHECK.end();
    }

    private static void costsSix() {
        MoonGate m = new MoonGate();
        CHECK.due("dig(5, 5)", 1, m.dig(5, 5));
        CHECK.due("coins", 94, m.count(2));
        CHECK.dueCell(m, 5, 5, 2, -1, 0, 1, 0);
        CHECK.due("dig(0, 5)", 1, m.dig(0, 5));
        CHECK.due("coins", 88, m.count(2));
    }

    private static void joinsPonds() {
        MoonGate m = new MoonGate();
        CHECK.due("dig(3, 2)", 1, m.dig(3, 2));
        CHECK.due("dig(4, 3)", 1, m.dig(4, 3));
        CHECK.due("dig(3, 4)", 1, m.dig(3, 4));
        CHECK.due("dig(2, 3)", 1, m.dig(2, 3));
        CHECK.due("dig(2, 4), which joins two", 3, m.dig(2, 4));
        CHECK.due("ponds", 3, m.count(5));
        CHECK.due("dig(3, 3), which joins all", 6, m.dig(3, 3));
        CHECK.due("ponds", 1, m.count(5));
    }

    private static void neighbours() {
        int[][] beside = {{4, 2}, {5, 3}, {4, 4}, {3, 3}};
        for (int[] at : beside) {
            MoonGate m = new MoonGate();
            m.dig(at[0], at[1]);
            CHECK.due("dig(4, 3) beside " + at[0] + ", " + at[1], 2, m.dig(4, 3));
            CHECK.due("cells of the pond", 2, m.cell(at[0], at[1], 3));
        }
    }

    private static void noNeighbours() {
        int[][] apart = {{3, 2}, {5, 2}, {5, 4}, {3, 4}, {4, 1}, {6, 3}, {4, 5}, {2, 3}};
        MoonGate m = new MoonGate();
        for (int[] at : apart) {
            CHECK.due("dig", 1, m.dig(at[0], at[1]));
        }
        CHECK.due("dig(4, 3)", 1, m.dig(4, 3));
        CHECK.due("ponds", 9, m.count(5));
    }

    private static void rimsAreApart() {
        MoonGate columns = new MoonGate();
        for (int y = 0; y < 7; y++) {
            CHECK.due("dig at the right rim", y + 1, columns.dig(9, y));
            CHECK.due("dig at the left rim", y + 1, columns.dig(0, y));
        }
        CHECK.due("ponds", 2, columns.count(5));
        MoonGate rows = new MoonGate();
        for (int x = 0; x < 8; x++) {
            CHECK.due("dig at the upper rim", x + 1, rows.dig(x, 0));
            CHECK.due("dig at the lower rim", x + 1, rows.dig(x, 6));
        }
        CHECK.due("ponds", 2, rows.count(5));
    }

    private static void rocksAndWalls() {
        MoonGate m = new MoonGate();
        m.rock(3, 3, 0, 1);
        m.wall(5, 3);
        CHECK.due("dig between a rock and a wall", 1, m.dig(4, 3));
        m.dig(2, 3);
        m.dig(6, 3);
        CHECK.due("ponds", 3, m.count(5));
    }

    private static void anyForm() {
        dueOnePond("down, right, up", 0, 10, 20, 21, 22, 12, 2);
        dueOnePond("down, left, up", 5, 15, 25, 24, 23, 13);
        dueOnePond("right, down, left", 41, 42, 43, 53, 63, 62, 61);
        dueOnePond("up at the right rim", 8, 18, 28, 29, 19);
        dueOnePond("a column", 9, 19, 29, 39, 49, 59, 69);
        dueOnePond("a row", 60, 61, 62, 63, 64, 65, 66, 67, 68, 69);
        dueOnePond("a ring", 11, 12, 13, 23, 33, 32, 31, 21);
        dueOnePond("a snail", 0, 1, 2, 3, 4, 14, 24, 34, 33, 32, 31, 30, 20, 21, 22);
    }

    private static void dueOnePond(String form, int... places) {
        MoonGate m = new MoonGate();
        for (int i = 0; i < places.length; i++) {
            CHECK.due("dig: " + form, i + 1, m.dig(places[i] % 10, places[i] / 10));
        }
        CHECK.due("ponds: " + form, 1, m.count(5));
        for (int place : places) {
            CHECK.due("cells: " + form, places.length, m.cell(place % 10, place / 10, 3));
        }
    }

    private static void wholeGarden() {
        MoonGate forth = Gardens.rich(420);
        MoonGate back = Gardens.rich(420);
        int coins = forth.count(2);
        for (int place = 0; place < 70; place++) {
            CHECK.due("dig of " + place, place + 1, forth.dig(place % 10, place / 10));
            CHECK.due("dig of " + (69 - place), place + 1, back.dig(9 - place % 10, 6 - place / 10));
        }
        CHECK.due("coins", coins - 420, forth.count(2));
        CHECK.due("pond cells", 70, forth.count(4));
        CHECK.due("ponds", 1, forth.count(5));
    }

    private static void corners() {
        MoonGate m = new MoonGate();
        int[][] corners = {{0, 0}, {9, 0}, {0, 6}, {9, 6}};
        for (int[] at : corners) {
            CHECK.due("dig in a corner", 1, m.dig(at[0], at[1]));
            CHECK.dueCell(m, at[0], at[1], 2, -1, 0, 1, 0);
        }
    }

    private static void notBare() {
        CHECK.refused(Check.UNTIMELY, "dig on a rock", Gardens::busy, m -> m.dig(5, 0));
        CHECK.refused(Check.UNTIMELY, "dig on a pond", Gardens::busy, m -> m.dig(3, 0));
        CHECK.refused(Check.UNTIMELY, "dig on a wall", Gardens::busy, m -> m.dig(9, 2));
    }

    private static void noneBare() {
        for (int place = 0; place < 70; place++) {
            int x = place % 10;
            int y = place / 10;
            CHECK.refused(Check.UNTIMELY, "dig on " + place, Gardens::most, m -> m.dig(x, y));
        }
    }

    private static void lessThanSix() {
        for (int coins = 0; coins < 6; coins++) {
            int few = coins;
            CHECK.refused(Check.UNTIMELY, "dig for " + few, () -> Gardens.withCoins(few), m -> m.dig(0, 0));
        }
    }

    private static void justSix() {
        MoonGate six = Gardens.withCoins(6);
        CHECK.due("dig for 6 coins", 1, six.dig(0, 0));
        CHECK.due("coins", 0, six.count(2));
        MoonGate seven = Gardens.withCoins(7);
        CHECK.due("dig for 7 coins", 1, seven.dig(0, 0));
        CHECK.due("coins", 1, seven.count(2));
    }

    private static void firstNamed() {
        CHECK.eachCombination("dig", (m, a) -> m.dig(a[0], a[1]), (m, a) -> {
            if (Check.noCell(a[0], a[1])) {
                return Check.OUTSIDE;
            }
            return m.cell(a[0], a[1], 0) != 0 || m.count(2) < 6 ? Check.UNTIMELY : null;
        }, Check.XS, Check.YS);
    }
}
