/** Promise 2: rock. */
public final class Promise02RockTest {
    private static final Check CHECK = new Check("Promise 2, rock");

    public static void main(String[] args) {
        CHECK.test("a rock costs twice its size, the coins left are returned", Promise02RockTest::costsTwiceItsSize);
        CHECK.test("it is set into the cell, with its shape and size", Promise02RockTest::standsInTheCell);
        CHECK.test("each cell takes one, till no cell is bare", Promise02RockTest::eachCellTakesOne);
        CHECK.test("x is not 0 to 9", () -> CHECK.refusedBeyondX("rock", (m, x, y) -> m.rock(x, y, 0, 1)));
        CHECK.test("x is 0, x is 9", Promise02RockTest::leastAndGreatestX);
        CHECK.test("y is not 0 to 6", () -> CHECK.refusedBeyondY("rock", (m, x, y) -> m.rock(x, y, 0, 1)));
        CHECK.test("y is 0, y is 6", Promise02RockTest::leastAndGreatestY);
        CHECK.test("x and y wrap around to no cell", Promise02RockTest::noCell);
        CHECK.test("shape is not 0 to 5", Promise02RockTest::noShape);
        CHECK.test("shape is 0, shape is 5", Promise02RockTest::leastAndGreatestShape);
        CHECK.test("size is not 1 to 9", Promise02RockTest::noSize);
        CHECK.test("size is 1, size is 9", Promise02RockTest::leastAndGreatestSize);
        CHECK.test("the cell is a rock, a pond or a wall", Promise02RockTest::notBare);
        CHECK.test("no cell of the garden is bare", Promise02RockTest::noneBare);
        CHECK.test("there is a coin less than the rock costs", Promise02RockTest::aCoinTooFew);
        CHECK.test("there are just as many coins as the rock costs", Promise02RockTest::justEnoughCoins);
        CHECK.test("the exception that is named first is thrown", Promise02RockTest::firstNamed);
        CHECK.end();
    }

    private static void costsTwiceItsSize() {
        for (int size = 1; size <= 9; size++) {
            MoonGate m = new MoonGate();
            CHECK.due("rock of size " + size, 100 - 2 * size, m.rock(4, 3, 0, size));
            CHECK.due("coins", 100 - 2 * size, m.count(2));
        }
    }

    private static void standsInTheCell() {
        for (int shape = 0; shape <= 5; shape++) {
            for (int size = 1; size <= 9; size++) {
                MoonGate m = new MoonGate();
                m.rock(7, 5, shape, size);
                CHECK.dueCell(m, 7, 5, 1, shape, size, 0, 0);
                CHECK.due("rocks", 1, m.count(3));
            }
        }
    }

    private static void eachCellTakesOne() {
        MoonGate m = Gardens.rich(140);
        int coins = m.count(2);
        for (int place = 0; place < 70; place++) {
            coins -= 2;
            CHECK.due("rock into " + place, coins, m.rock(place % 10, place / 10, place % 6, 1));
            CHECK.due("its shape", place % 6, m.cell(place % 10, place / 10, 1));
        }
        CHECK.due("rocks", 70, m.count(3));
    }

    private static void noCell() {
        CHECK.refusedAtNoCell("rock", (m, x, y) -> m.rock(x, y, 0, 1));
    }

    private static void leastAndGreatestX() {
        MoonGate m = new MoonGate();
        CHECK.due("rock(0, 3, 1, 2)", 96, m.rock(0, 3, 1, 2));
        CHECK.due("rock(9, 3, 2, 3)", 90, m.rock(9, 3, 2, 3));
        CHECK.dueCell(m, 0, 3, 1, 1, 2, 0, 0);
        CHECK.dueCell(m, 9, 3, 1, 2, 3, 0, 0);
    }

    private static void leastAndGreatestY() {
        MoonGate m = new MoonGate();
        CHECK.due("rock(4, 0, 1, 2)", 96, m.rock(4, 0, 1, 2));
        CHECK.due("rock(4, 6, 2, 3)", 90, m.rock(4, 6, 2, 3));
        CHECK.dueCell(m, 4, 0, 1, 1, 2, 0, 0);
        CHECK.dueCell(m, 4, 6, 1, 2, 3, 0, 0);
    }

    private static void noShape() {
        CHECK.refusedBeyond(Check.SENSELESS, "rock of size 1 and shape", 0, 5, (m, shape) -> m.rock(0, 0, shape, 1));
        CHECK.refusedBeyond(Check.SENSELESS, "rock of size 9 and shape", 0, 5, (m, shape) -> m.rock(9, 6, shape, 9));
    }

    private static void leastAndGreatestShape() {
        MoonGate m = new MoonGate();
        CHECK.due("rock of shape 0", 98, m.rock(0, 0, 0, 1));
        CHECK.due("rock of shape 5", 96, m.rock(1, 0, 5, 1));
        CHECK.dueCell(m, 0, 0, 1, 0, 1, 0, 0);
        CHECK.dueCell(m, 1, 0, 1, 5, 1, 0, 0);
    }

    private static void noSize() {
        CHECK.refusedBeyond(Check.SENSELESS, "rock of shape 0 and size", 1, 9, (m, size) -> m.rock(0, 0, 0, size));
        CHECK.refusedBeyond(Check.SENSELESS, "rock of shape 5 and size", 1, 9, (m, size) -> m.rock(9, 6, 5, size));
    }

    private static void leastAndGreatestSize() {
        MoonGate m = new MoonGate();
        CHECK.due("rock of size 1", 98, m.rock(0, 0, 0, 1));
        CHECK.due("rock of size 9", 80, m.rock(1, 0, 0, 9));
        CHECK.dueCell(m, 0, 0, 1, 0, 1, 0, 0);
        CHECK.dueCell(m, 1, 0, 1, 0, 9, 0, 0);
    }

    private static void notBare() {
        CHECK.refused(Check.UNTIMELY, "rock on a rock", Gardens::busy, m -> m.rock(5, 0, 0, 1));
        CHECK.refused(Check.UNTIMELY, "rock on a pond", Gardens::busy, m -> m.rock(3, 0, 0, 1));
        CHECK.refused(Check.UNTIMELY, "rock on a wall", Gardens::busy, m -> m.rock(9, 2, 0, 1));
    }

    private static void noneBare() {
        for (int place = 0; place < 70; place++) {
            int x = place % 10;
            int y = place / 10;
            CHECK.refused(Check.UNTIMELY, "rock on " + place, Gardens::most, m -> m.rock(x, y, 0, 1));
        }
    }

    private static void aCoinTooFew() {
        for (int size = 1; size <= 9; size++) {
            int cost = 2 * size;
            CHECK.refused(Check.UNTIMELY, "rock for " + cost, () -> Gardens.withCoins(cost - 1),
                m -> m.rock(0, 0, 0, cost / 2));
        }
        CHECK.refused(Check.UNTIMELY, "rock without coins", () -> Gardens.withCoins(0), m -> m.rock(0, 0, 0, 1));
    }

    private static void justEnoughCoins() {
        for (int size = 1; size <= 9; size++) {
            CHECK.due("rock for all coins", 0, Gardens.withCoins(2 * size).rock(0, 0, 0, size));
            CHECK.due("rock that leaves a coin", 1, Gardens.withCoins(2 * size + 1).rock(0, 0, 0, size));
        }
    }

    private static void firstNamed() {
        CHECK.eachCombination("rock", (m, a) -> m.rock(a[0], a[1], a[2], a[3]), (m, a) -> {
            if (Check.noCell(a[0], a[1])) {
                return Check.OUTSIDE;
            }
            if (Check.noRock(a[2], a[3])) {
                return Check.SENSELESS;
            }
            return m.cell(a[0], a[1], 0) != 0 || m.count(2) < 2 * a[3] ? Check.UNTIMELY : null;
        }, Check.XS, Check.YS, Check.SHAPES, Check.SIZES);
    }
}
