/** Promise 4: wall. */
public final class Promise04WallTest {
    private static final Check CHECK = new Check("Promise 4, wall");

    public static void main(String[] args) {
        CHECK.test("a wall costs 3 coins, and the coins left are returned", Promise04WallTest::costsThree);
        CHECK.test("each cell takes one, till no cell is bare", Promise04WallTest::eachCellTakesOne);
        CHECK.test("x is not 0 to 9", () -> CHECK.refusedBeyondX("wall", MoonGate::wall));
        CHECK.test("y is not 0 to 6", () -> CHECK.refusedBeyondY("wall", MoonGate::wall));
        CHECK.test("x and y wrap around to no cell", () -> CHECK.refusedAtNoCell("wall", MoonGate::wall));
        CHECK.test("x is 0 and 9, y is 0 and 6", Promise04WallTest::corners);
        CHECK.test("the cell is a rock, a pond or a wall", Promise04WallTest::notBare);
        CHECK.test("no cell of the garden is bare", Promise04WallTest::noneBare);
        CHECK.test("there are less than 3 coins", Promise04WallTest::lessThanThree);
        CHECK.test("there are just 3 coins", Promise04WallTest::justThree);
        CHECK.test("the exception that is named first is thrown", Promise04WallTest::firstNamed);
        CHECK.end();
    }

    private static void costsThree() {
        MoonGate m = new MoonGate();
        CHECK.due("wall(5, 5)", 97, m.wall(5, 5));
        CHECK.due("coins", 97, m.count(2));
        CHECK.dueCell(m, 5, 5, 3, -1, 0, 0, 0);
        CHECK.due("wall(4, 5)", 94, m.wall(4, 5));
        CHECK.dueCell(m, 4, 5, 3, -1, 0, 0, 0);
    }

    private static void eachCellTakesOne() {
        MoonGate m = Gardens.rich(210);
        int coins = m.count(2);
        for (int place = 0; place < 70; place++) {
            coins -= 3;
            CHECK.due("wall into " + place, coins, m.wall(place % 10, place / 10));
        }
        for (int place = 0; place < 70; place++) {
            CHECK.dueCell(m, place % 10, place / 10, 3, -1, 0, 0, 0);
        }
    }

    private static void corners() {
        MoonGate m = new MoonGate();
        int[][] corners = {{0, 0}, {9, 0}, {0, 6}, {9, 6}};
        int coins = 100;
        for (int[] at : corners) {
            coins -= 3;
            CHECK.due("wall in a corner", coins, m.wall(at[0], at[1]));
            CHECK.dueCell(m, at[0], at[1], 3, -1, 0, 0, 0);
        }
    }

    private static void notBare() {
        CHECK.refused(Check.UNTIMELY, "wall on a rock", Gardens::busy, m -> m.wall(5, 0));
        CHECK.refused(Check.UNTIMELY, "wall on a pond", Gardens::busy, m -> m.wall(3, 0));
        CHECK.refused(Check.UNTIMELY, "wall on a wall", Gardens::busy, m -> m.wall(9, 2));
    }

    private static void noneBare() {
        for (int place = 0; place < 70; place++) {
            int x = place % 10;
            int y = place / 10;
            CHECK.refused(Check.UNTIMELY, "wall on " + place, Gardens::most, m -> m.wall(x, y));
        }
    }

    private static void lessThanThree() {
        for (int coins = 0; coins < 3; coins++) {
            int few = coins;
            CHECK.refused(Check.UNTIMELY, "wall for " + few, () -> Gardens.withCoins(few), m -> m.wall(0, 0));
        }
    }

    private static void justThree() {
        CHECK.due("wall for 3 of 3 coins", 0, Gardens.withCoins(3).wall(0, 0));
        CHECK.due("wall for 3 of 4 coins", 1, Gardens.withCoins(4).wall(0, 0));
    }

    private static void firstNamed() {
        CHECK.eachCombination("wall", (m, a) -> m.wall(a[0], a[1]), (m, a) -> {
            if (Check.noCell(a[0], a[1])) {
                return Check.OUTSIDE;
            }
            return m.cell(a[0], a[1], 0) != 0 || m.count(2) < 3 ? Check.UNTIMELY : null;
        }, Check.XS, Check.YS);
    }
}
