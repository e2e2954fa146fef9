/** Promise 15: count. */
public final class Promise15CountTest {
    private static final Check CHECK = new Check("Promise 15, count");

    public static void main(String[] args) {
        CHECK.test("all in a garden with something of all", Promise15CountTest::all);
        CHECK.test("all in a garden with nothing in it", Promise15CountTest::nothing);
        CHECK.test("0: the day, 1: full on days with the remainder 4 by 8", Promise15CountTest::moons);
        CHECK.test("2: coins, from 0 on", Promise15CountTest::coins);
        CHECK.test("3: rocks, 0 to 70", Promise15CountTest::rocks);
        CHECK.test("4: pond cells, 5: ponds; one of 70 cells", Promise15CountTest::onePond);
        CHECK.test("5: 35 ponds of a cell", Promise15CountTest::mostPonds);
        CHECK.test("6: carps that are not sold, 0 to 30", Promise15CountTest::carps);
        CHECK.test("7: their sizes, added, to 1200", Promise15CountTest::sizes);
        CHECK.test("8: gates, 0 to 6", Promise15CountTest::gates);
        CHECK.test("9: poets, 0 to 5", Promise15CountTest::poets);
        CHECK.test("10: lines of all, added", Promise15CountTest::lines);
        CHECK.test("what is not 0 to 10", Promise15CountTest::notTold);
        CHECK.test("nothing is changed", Promise15CountTest::changesNothing);
        CHECK.end();
    }

    private static void dueCounts(MoonGate m, int... want) {
        for (int what = 0; what <= 10; what++) {
            CHECK.due("count(" + what + ")", want[what], m.count(what));
        }
    }

    private static void all() {
        MoonGate m = new MoonGate();
        m.rock(2, 0, 0, 6);
        m.rock(2, 1, 0, 1);
        m.dig(4, 4);
        m.dig(5, 4);
        m.dig(7, 4);
        m.wall(0, 5);
        m.carp(4, 4);
        m.carp(7, 4);
        m.gate(0, 0, 1);
        m.gate(0, 1, 1);
        m.gate(0, 2, 1);
        m.invite(0);
        m.invite(1);
        m.pass(4);
        m.sell(1);
        dueCounts(m, 4, 1, 100 - 14 - 18 - 3 - 8 + 3, 2, 3, 2, 1, 5, 3, 2, 4 * 2 + 4);
    }

    private static void nothing() {
        dueCounts(new MoonGate(), 0, 0, 100, 0, 0, 0, 0, 0, 0, 0, 0);
    }

    private static void moons() {
        MoonGate m = new MoonGate();
        for (int day = 0; day <= 100; day++) {
            CHECK.due("day", day, m.count(0));
            CHECK.due("full moon on the day " + day, day % 8 == 4 ? 1 : 0, m.count(1));
            m.pass(1);
        }
        MoonGate late = new MoonGate();
        for (int i = 0; i < 500; i++) {
            late.pass(60);
        }
        CHECK.due("day", 30000, late.count(0));
        CHECK.due("full moon on the day 30000", 0, late.count(1));
        late.pass(4);
        CHECK.due("full moon on the day 30004", 1, late.count(1));
    }

    private static void coins() {
        for (int coins = 0; coins <= 100; coins++) {
            CHECK.due("coins", coins, Gardens.withCoins(coins).count(2));
        }
    }

    private static void rocks() {
        MoonGate m = Gardens.rich(140);
        for (int place = 0; place < 70; place++) {
            CHECK.due("rocks", place, m.count(3));
            m.rock(place % 10, place / 10, 0, 1);
        }
        CHECK.due("rocks", 70, m.count(3));
        m.clear(9, 6);
        CHECK.due("rocks, one is cleared", 69, m.count(3));
        CHECK.due("pond cells", 0, m.count(4));
    }

    private static void onePond() {
        MoonGate m = Gardens.rich(420);
        CHECK.due("ponds", 0, m.count(5));
        for (int place = 0; place < 70; place++) {
            CHECK.due("pond cells", place, m.count(4));
            m.dig(place % 10, place / 10);
            CHECK.due("ponds", 1, m.count(5));
        }
        CHECK.due("pond cells", 70, m.count(4));
        CHECK.due("rocks", 0, m.count(3));
    }

    private static void mostPonds() {
        MoonGate m = Gardens.rich(420);
        int ponds = 0;
        for (int place = 0; place < 70; place++) {
            if ((place % 10 + place / 10) % 2 == 0) {
                m.dig(place % 10, place / 10);
                ponds++;
                CHECK.due("ponds", ponds, m.count(5));
            }
        }
        CHECK.due("ponds", 35, m.count(5));
        CHECK.due("pond cells", 35, m.count(4));
        m.dig(1, 0);
        CHECK.due("ponds, three are joined", 33, m.count(5));
        m.clear(1, 0);
        CHECK.due("ponds, three are apart again", 35, m.count(5));
    }

    private static MoonGate fifteenCells() {
        MoonGate m = Gardens.rich(15 * 6 + 30 * 4);
        for (int cell = 0; cell < 15; cell++) {
            m.dig(cell % 10, cell / 10);
        }
        return m;
    }

    private static void carps() {
        MoonGate m = fifteenCells();
        for (int carp = 0; carp < 30; carp++) {
            CHECK.due("carps", carp, m.count(6));
            m.carp(carp % 10, 0);
        }
        CHECK.due("carps", 30, m.count(6));
        for (int carp = 0; carp < 30; carp++) {
            m.sell(carp);
            CHECK.due("carps", 29 - carp, m.count(6));
        }
    }

    private static void sizes() {
        MoonGate m = fifteenCells();
        CHECK.due("sizes of none", 0, m.count(7));
        for (int carp = 0; carp < 30; carp++) {
            m.carp(carp % 10, 0);
        }
        CHECK.due("sizes", 30, m.count(7));
        m.pass(38);
        CHECK.due("sizes", 30 * 39, m.count(7));
        m.pass(1);
        CHECK.due("sizes", 1200, m.count(7));
        m.pass(1);
        CHECK.due("sizes", 1200, m.count(7));
        m.sell(29);
        CHECK.due("sizes, one is sold", 1160, m.count(7));
    }

    private static void gates() {
        MoonGate m = new MoonGate();
        for (int gate = 0; gate < 6; gate++) {
            CHECK.due("gates", gate, m.count(8));
            m.gate(0, 0, 1);
        }
        CHECK.due("gates", 6, m.count(8));
    }

    private static void poets() {
        MoonGate m = new MoonGate();
        m.gate(0, 0, 1);
        for (int poet = 0; poet < 5; poet++) {
            CHECK.due("poets", poet, m.count(9));
            m.invite(0);
        }
        CHECK.due("poets", 5, m.count(9));
    }

    private static void lines() {
        MoonGate m = Gardens.writing(1, 2, 3, 4, 5);
        CHECK.due("lines", 0, m.count(10));
        m.pass(4);
        CHECK.due("lines", 60, m.count(10));
        m.pass(1);
        CHECK.due("lines, with a full moon", 90, m.count(10));
    }

    private static void notTold() {
        CHECK.refusedBeyond(Check.OUTSIDE, "count", 0, 10, MoonGate::count);
    }

    private static void changesNothing() {
        for (int what = 0; what <= 10; what++) {
            int told = what;
            CHECK.changesNothing("count(" + told + ")", Gardens::busy, m -> m.count(told));
        }
    }
}
