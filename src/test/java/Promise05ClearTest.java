/** Promise 5: clear. */
public final class Promise05ClearTest {
    private static final Check CHECK = new Check("Promise 5, clear");

    public static void main(String[] args) {
        CHECK.test("a rock is sold for its size, and the coins then are returned", Promise05ClearTest::sellsARock);
        CHECK.test("a pond cell and a wall bring no coins", Promise05ClearTest::sellsNothingElse);
        CHECK.test("the cell is bare then, and takes another", Promise05ClearTest::bareThen);
        CHECK.test("without coins a cell is cleared too", Promise05ClearTest::withoutCoins);
        CHECK.test("each cell of a full garden, till all are bare", Promise05ClearTest::fullGarden);
        CHECK.test("a pond is divided, or ends", Promise05ClearTest::dividesAPond);
        CHECK.test("x is not 0 to 9", () -> CHECK.refusedBeyondX("clear", MoonGate::clear));
        CHECK.test("y is not 0 to 6", () -> CHECK.refusedBeyondY("clear", MoonGate::clear));
        CHECK.test("x and y wrap around to no cell", () -> CHECK.refusedAtNoCell("clear", MoonGate::clear));
        CHECK.test("the cell is bare", Promise05ClearTest::bareCell);
        CHECK.test("the cell is cleared twice", Promise05ClearTest::clearedTwice);
        CHECK.test("carps are in the cell", Promise05ClearTest::carpsInIt);
        CHECK.test("the last carp in the cell is sold", Promise05ClearTest::lastCarpSold);
        CHECK.test("carps are in another cell of the pond", Promise05ClearTest::carpsBesideIt);
        CHECK.test("the exception that is named first is thrown", Promise05ClearTest::firstNamed);
        CHECK.end();
    }

    private static void sellsARock() {
        for (int size = 1; size <= 9; size++) {
            MoonGate m = new MoonGate();
            m.rock(4, 3, size % 6, size);
            CHECK.due("clear of a rock of size " + size, 100 - size, m.clear(4, 3));
            CHECK.due("coins", 100 - size, m.count(2));
        }
    }

    private static void sellsNothingElse() {
        MoonGate m = new MoonGate();
        m.dig(2, 1);
        m.wall(3, 1);
        CHECK.due("clear of a pond cell", 91, m.clear(2, 1));
        CHECK.due("clear of a wall", 91, m.clear(3, 1));
        CHECK.due("coins", 91, m.count(2));
    }

    private static void bareThen() {
        MoonGate m = new MoonGate();
        m.rock(1, 1, 4, 7);
        m.dig(2, 1);
        m.wall(3, 1);
        for (int x = 1; x <= 3; x++) {
            m.clear(x, 1);
            CHECK.dueCell(m, x, 1, 0, -1, 0, 0, 0);
        }
        CHECK.due("rocks", 0, m.count(3));
        CHECK.due("pond cells", 0, m.count(4));
        CHECK.due("ponds", 0, m.count(5));
        m.wall(1, 1);
        CHECK.dueCell(m, 1, 1, 3, -1, 0, 0, 0);
        m.rock(2, 1, 5, 1);
        CHECK.dueCell(m, 2, 1, 1, 5, 1, 0, 0);
        m.dig(3, 1);
        CHECK.dueCell(m, 3, 1, 2, -1, 0, 1, 0);
    }

    private static void withoutCoins() {
        MoonGate m = Gardens.withCoins(11);
        m.dig(0, 0);
        m.wall(1, 0);
        m.rock(2, 0, 0, 1);
        CHECK.due("coins", 0, m.count(2));
        CHECK.due("clear of a pond cell", 0, m.clear(0, 0));
        CHECK.due("clear of a wall", 0, m.clear(1, 0));
        CHECK.due("clear of a rock", 1, m.clear(2, 0));
    }

    private static void fullGarden() {
        MoonGate m = Gardens.most();
        for (int carp = 1; carp < 29; carp++) {
            m.sell(carp);
        }
        int coins = m.count(2);
        for (int place = 0; place < 70; place++) {
            coins += m.cell(place % 10, place / 10, 2);
            CHECK.due("clear of " + place, coins, m.clear(place % 10, place / 10));
        }
        CHECK.due("rocks", 0, m.count(3));
        CHECK.due("pond cells", 0, m.count(4));
        CHECK.due("ponds", 0, m.count(5));
        CHECK.due("gates stay", 6, m.count(8));
    }

    private static void dividesAPond() {
        MoonGate m = new MoonGate();
        int[][] cross = {{3, 3}, {3, 2}, {4, 3}, {3, 4}, {2, 3}, {2, 4}};
        for (int[] at : cross) {
            m.dig(at[0], at[1]);
        }
        m.carp(2, 4);
        m.carp(2, 3);
        m.carp(4, 3);
        CHECK.dueCell(m, 3, 2, 2, -1, 0, 6, 3);
        m.clear(3, 3);
        CHECK.due("three ponds", 3, m.count(5));
        CHECK.dueCell(m, 3, 2, 2, -1, 0, 1, 0);
        CHECK.dueCell(m, 4, 3, 2, -1, 0, 1, 1);
        CHECK.dueCell(m, 3, 4, 2, -1, 0, 3, 2);
        CHECK.dueCell(m, 2, 3, 2, -1, 0, 3, 2);
        m.clear(3, 2);
        CHECK.due("two ponds", 2, m.count(5));
    }

    private static void bareCell() {
        for (int place = 0; place < 70; place++) {
            int x = place % 10;
            int y = place / 10;
            CHECK.refused(Check.UNTIMELY, "clear of " + place, MoonGate::new, m -> m.clear(x, y));
        }
    }

    private static void clearedTwice() {
        for (int kind = 0; kind < 3; kind++) {
            int x = new int[] {5, 4, 9}[kind];
            int y = new int[] {0, 0, 2}[kind];
            CHECK.refused(Check.UNTIMELY, "clear again of " + x + ", " + y, () -> {
                MoonGate m = Gardens.busy();
                m.clear(x, y);
                return m;
            }, m -> m.clear(x, y));
        }
    }

    private static MoonGate twoCarps() {
        MoonGate m = new MoonGate();
        m.dig(2, 1);
        m.dig(3, 1);
        m.carp(2, 1);
        m.carp(2, 1);
        return m;
    }

    private static MoonGate oneCarpLeft(int sold) {
        MoonGate m = twoCarps();
        m.sell(sold);
        return m;
    }

    private static void carpsInIt() {
        CHECK.refused(Check.UNTIMELY, "clear with two carps", Promise05ClearTest::twoCarps, m -> m.clear(2, 1));
        CHECK.refused(Check.UNTIMELY, "clear with the carp 1", () -> oneCarpLeft(0), m -> m.clear(2, 1));
        CHECK.refused(Check.UNTIMELY, "clear with the carp 0", () -> oneCarpLeft(1), m -> m.clear(2, 1));
        for (int x = 0; x < 10; x++) {
            int at = x;
            CHECK.refused(Check.UNTIMELY, "clear with some of 28 carps", Gardens::most, m -> m.clear(at, 4));
        }
    }

    private static void lastCarpSold() {
        MoonGate m = oneCarpLeft(0);
        m.sell(1);
        CHECK.due("clear after all are sold", 100 - 12 - 8 + 2, m.clear(2, 1));
        CHECK.dueCell(m, 2, 1, 0, -1, 0, 0, 0);
        CHECK.dueCell(m, 3, 1, 2, -1, 0, 1, 0);
    }

    private static void carpsBesideIt() {
        MoonGate m = twoCarps();
        CHECK.due("clear beside two carps", 80, m.clear(3, 1));
        CHECK.dueCell(m, 2, 1, 2, -1, 0, 1, 2);
    }

    private static boolean hasCarps(MoonGate m, int x, int y) {
        int came = Gardens.carpsThatCame(m);
        for (int carp = 0; carp < came; carp++) {
            if (m.told(carp, 3) == 0 && m.told(carp, 0) == x && m.told(carp, 1) == y) {
                return true;
            }
        }
        return false;
    }

    private static void firstNamed() {
        CHECK.eachCombination("clear", (m, a) -> m.clear(a[0], a[1]), (m, a) -> {
            if (Check.noCell(a[0], a[1])) {
                return Check.OUTSIDE;
            }
            return m.cell(a[0], a[1], 0) == 0 || hasCarps(m, a[0], a[1]) ? Check.UNTIMELY : null;
        }, Check.XS, Check.YS);
    }
}
