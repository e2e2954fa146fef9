/** Promise 7: carp. */
public final class Promise07CarpTest {
    private static final Check CHECK = new Check("Promise 7, carp");

    public static void main(String[] args) {
        CHECK.test("a carp costs 4 coins", Promise07CarpTest::costsFour);
        CHECK.test("its number is returned, from 0 in the order of their coming", Promise07CarpTest::numbers);
        CHECK.test("it comes into the cell, with the size 1", Promise07CarpTest::comesIntoTheCell);
        CHECK.test("x is not 0 to 9", () -> CHECK.refusedBeyondX("carp", MoonGate::carp));
        CHECK.test("y is not 0 to 6", () -> CHECK.refusedBeyondY("carp", MoonGate::carp));
        CHECK.test("x and y wrap around to no cell", () -> CHECK.refusedAtNoCell("carp", MoonGate::carp));
        CHECK.test("x is 0 and 9, y is 0 and 6", Promise07CarpTest::corners);
        CHECK.test("the cell is bare, a rock or a wall", Promise07CarpTest::noPond);
        CHECK.test("no cell of the garden is a pond", Promise07CarpTest::noPondAtAll);
        CHECK.test("the cell was a pond, and is cleared", Promise07CarpTest::clearedPond);
        CHECK.test("there are less than 4 coins", Promise07CarpTest::lessThanFour);
        CHECK.test("there are just 4 coins", Promise07CarpTest::justFour);
        CHECK.test("30 carps can come, into one cell too", Promise07CarpTest::thirtyCome);
        CHECK.test("there were 30, and none is sold", Promise07CarpTest::thirtyWere);
        CHECK.test("there were 30, and all are sold", Promise07CarpTest::thirtyWereSold);
        CHECK.test("the exception that is named first is thrown", Promise07CarpTest::firstNamed);
        CHECK.end();
    }

    private static void costsFour() {
        MoonGate m = new MoonGate();
        m.dig(5, 5);
        m.carp(5, 5);
        CHECK.due("coins", 90, m.count(2));
        m.carp(5, 5);
        CHECK.due("coins", 86, m.count(2));
    }

    private static void numbers() {
        MoonGate m = new MoonGate();
        m.dig(5, 5);
        m.dig(0, 0);
        CHECK.due("carp(5, 5)", 0, m.carp(5, 5));
        CHECK.due("carp(0, 0)", 1, m.carp(0, 0));
        m.sell(1);
        CHECK.due("carp(5, 5), as the last is sold", 2, m.carp(5, 5));
        m.sell(0);
        CHECK.due("carp(5, 5), as the first is sold", 3, m.carp(5, 5));
        CHECK.due("carps that are not sold", 2, m.count(6));
    }

    private static void comesIntoTheCell() {
        MoonGate m = new MoonGate();
        m.dig(8, 5);
        m.dig(8, 6);
        m.carp(8, 5);
        m.carp(8, 6);
        CHECK.dueTold(m, 0, 8, 5, 1, 0, 1);
        CHECK.dueTold(m, 1, 8, 6, 1, 0, 1);
        CHECK.due("carps", 2, m.count(6));
        CHECK.due("sizes", 2, m.count(7));
    }

    private static void corners() {
        MoonGate m = new MoonGate();
        int[][] corners = {{0, 0}, {9, 0}, {0, 6}, {9, 6}};
        for (int i = 0; i < 4; i++) {
            m.dig(corners[i][0], corners[i][1]);
            CHECK.due("carp in a corner", i, m.carp(corners[i][0], corners[i][1]));
            CHECK.dueTold(m, i, corners[i][0], corners[i][1], 1, 0, 1);
        }
    }

    private static void noPond() {
        CHECK.refused(Check.UNTIMELY, "carp in a bare cell", Gardens::busy, m -> m.carp(2, 0));
        CHECK.refused(Check.UNTIMELY, "carp in a rock", Gardens::busy, m -> m.carp(5, 0));
        CHECK.refused(Check.UNTIMELY, "carp in a wall", Gardens::busy, m -> m.carp(9, 2));
    }

    private static void noPondAtAll() {
        for (int place = 0; place < 70; place++) {
            int x = place % 10;
            int y = place / 10;
            CHECK.refused(Check.UNTIMELY, "carp in " + place, MoonGate::new, m -> m.carp(x, y));
        }
    }

    private static void clearedPond() {
        CHECK.refused(Check.UNTIMELY, "carp where a pond was", () -> {
            MoonGate m = new MoonGate();
            m.dig(4, 2);
            m.dig(5, 2);
            m.clear(4, 2);
            return m;
        }, m -> m.carp(4, 2));
    }

    private static MoonGate pondAndCoins(int coins) {
        MoonGate m = Gardens.withCoins(coins + 6);
        m.dig(4, 2);
        return m;
    }

    private static void lessThanFour() {
        for (int coins = 0; coins < 4; coins++) {
            int few = coins;
            CHECK.refused(Check.UNTIMELY, "carp for " + few, () -> pondAndCoins(few), m -> m.carp(4, 2));
        }
    }

    private static void justFour() {
        MoonGate four = pondAndCoins(4);
        CHECK.due("carp for 4 coins", 0, four.carp(4, 2));
        CHECK.due("coins", 0, four.count(2));
        MoonGate five = pondAndCoins(5);
        CHECK.due("carp for 5 coins", 0, five.carp(4, 2));
        CHECK.due("coins", 1, five.count(2));
    }

    private static MoonGate thirty() {
        MoonGate m = Gardens.rich(200);
        m.dig(4, 2);
        for (int carp = 0; carp < 30; carp++) {
            m.carp(4, 2);
        }
        return m;
    }

    private static MoonGate thirtySold() {
        MoonGate m = thirty();
        for (int carp = 0; carp < 30; carp++) {
            m.sell(carp);
        }
        return m;
    }

    private static void thirtyCome() {
        MoonGate m = Gardens.rich(126);
        m.dig(4, 2);
        int coins = m.count(2);
        for (int carp = 0; carp < 30; carp++) {
            CHECK.due("carp", carp, m.carp(4, 2));
        }
        CHECK.due("carps", 30, m.count(6));
        CHECK.due("coins", coins - 120, m.count(2));
        CHECK.dueTold(m, 29, 4, 2, 1, 0, 1);
    }

    private static void thirtyWere() {
        CHECK.refused(Check.UNTIMELY, "the 31st", Promise07CarpTest::thirty, m -> m.carp(4, 2));
        CHECK.refused(Check.UNTIMELY, "the 31st, two are sold", Gardens::most, m -> m.carp(4, 4));
        CHECK.refused(Check.OUTSIDE, "the 31st, outside", Promise07CarpTest::thirty, m -> m.carp(10, 2));
    }

    private static void thirtyWereSold() {
        CHECK.refused(Check.UNTIMELY, "the 31st", Promise07CarpTest::thirtySold, m -> m.carp(4, 2));
        MoonGate m = thirtySold();
        CHECK.due("carps", 0, m.count(6));
        CHECK.dueTold(m, 29, 4, 2, 1, 1, 0);
    }

    private static void firstNamed() {
        CHECK.eachCombination("carp", (m, a) -> m.carp(a[0], a[1]), (m, a) -> {
            if (Check.noCell(a[0], a[1])) {
                return Check.OUTSIDE;
            }
            boolean refused = m.cell(a[0], a[1], 0) != 2 || m.count(2) < 4 || Gardens.carpsThatCame(m) >= 30;
            return refused ? Check.UNTIMELY : null;
        }, Check.XS, Check.YS);
    }
}
