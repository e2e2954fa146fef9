/** Promise 9: told. */
public final class Promise09ToldTest {
    private static final Check CHECK = new Check("Promise 9, told");

    public static void main(String[] args) {
        CHECK.test("0 x, 1 y", Promise09ToldTest::places);
        CHECK.test("x and y of one that is sold are the last ones", Promise09ToldTest::lastPlace);
        CHECK.test("2: its size, from 1 to 40", Promise09ToldTest::sizes);
        CHECK.test("3: 1 if it is sold, else 0", Promise09ToldTest::sold);
        CHECK.test("4: its rank, 1 and how many are greater", Promise09ToldTest::ranks);
        CHECK.test("carps of the same size have the same rank", Promise09ToldTest::sameRank);
        CHECK.test("the ranks of 30 carps of 30 sizes", Promise09ToldTest::thirtyRanks);
        CHECK.test("the rank is 0 if it is sold, and it counts for no other", Promise09ToldTest::rankOfTheSold);
        CHECK.test("there is no such carp", Promise09ToldTest::noSuchCarp);
        CHECK.test("what is not 0 to 4", Promise09ToldTest::notTold);
        CHECK.test("nothing is changed", Promise09ToldTest::changesNothing);
        CHECK.end();
    }

    private static void places() {
        MoonGate m = new MoonGate();
        int[][] at = {{0, 0}, {9, 0}, {0, 6}, {9, 6}, {3, 5}};
        for (int carp = 0; carp < at.length; carp++) {
            m.dig(at[carp][0], at[carp][1]);
            m.carp(at[carp][0], at[carp][1]);
            CHECK.dueTold(m, carp, at[carp][0], at[carp][1], 1, 0, 1);
        }
    }

    private static void lastPlace() {
        MoonGate m = new MoonGate();
        m.dig(8, 3);
        m.carp(8, 3);
        m.sell(0);
        CHECK.dueTold(m, 0, 8, 3, 1, 1, 0);
        m.clear(8, 3);
        m.wall(8, 3);
        CHECK.dueTold(m, 0, 8, 3, 1, 1, 0);
    }

    private static void sizes() {
        MoonGate m = new MoonGate();
        m.dig(8, 3);
        m.carp(8, 3);
        for (int size = 1; size <= 40; size++) {
            CHECK.due("told(0, 2)", size, m.told(0, 2));
            m.pass(1);
        }
        CHECK.due("told(0, 2), not more than 40", 40, m.told(0, 2));
        m.sell(0);
        m.pass(1);
        CHECK.due("told(0, 2) of one that is sold", 40, m.told(0, 2));
    }

    private static void sold() {
        MoonGate m = Gardens.most();
        for (int carp = 0; carp < 30; carp++) {
            CHECK.due("told(" + carp + ", 3)", carp == 0 || carp == 29 ? 1 : 0, m.told(carp, 3));
        }
    }

    private static void ranks() {
        MoonGate m = new MoonGate();
        m.dig(0, 0);
        m.dig(1, 0);
        m.carp(0, 0);
        CHECK.due("the rank of one alone", 1, m.told(0, 4));
        m.pass(1);
        m.carp(1, 0);
        m.pass(1);
        m.carp(0, 0);
        CHECK.dueTold(m, 0, 0, 0, 3, 0, 1);
        CHECK.dueTold(m, 1, 1, 0, 2, 0, 2);
        CHECK.dueTold(m, 2, 0, 0, 1, 0, 3);
    }

    private static void sameRank() {
        MoonGate m = new MoonGate();
        m.dig(0, 0);
        m.dig(1, 0);
        m.carp(0, 0);
        m.carp(1, 0);
        m.pass(1);
        m.carp(0, 0);
        m.carp(1, 0);
        int[] want = {1, 1, 3, 3};
        for (int carp = 0; carp < 4; carp++) {
            CHECK.due("told(" + carp + ", 4)", want[carp], m.told(carp, 4));
        }
    }

    /** The first that comes is the greatest, of size 31; the last has size 2. */
    private static MoonGate thirtySizes() {
        MoonGate m = Gardens.rich(15 * 6 + 30 * 4);
        for (int cell = 0; cell < 15; cell++) {
            m.dig(cell % 10, cell / 10);
        }
        for (int carp = 0; carp < 30; carp++) {
            m.carp(carp % 10, 0);
            m.pass(1);
        }
        return m;
    }

    private static void thirtyRanks() {
        MoonGate m = thirtySizes();
        for (int carp = 0; carp < 30; carp++) {
            CHECK.dueTold(m, carp, carp % 10, 0, 31 - carp, 0, carp + 1);
        }
        m.pass(60);
        for (int carp = 0; carp < 30; carp++) {
            CHECK.dueTold(m, carp, carp % 10, 0, 40, 0, 1);
        }
    }

    private static void rankOfTheSold() {
        MoonGate m = thirtySizes();
        m.sell(0);
        m.sell(10);
        m.sell(29);
        for (int carp = 1; carp < 29; carp++) {
            CHECK.due("told(" + carp + ", 4)", carp == 10 ? 0 : carp < 10 ? carp : carp - 1, m.told(carp, 4));
        }
        CHECK.due("told(0, 4)", 0, m.told(0, 4));
        CHECK.due("told(29, 4)", 0, m.told(29, 4));
    }

    private static void noSuchCarp() {
        for (int what = 0; what < 5; what++) {
            int told = what;
            CHECK.refusedBeyond(Check.OUTSIDE, "told(carp, " + told + ")", 0, m -> Gardens.carpsThatCame(m) - 1,
                (m, carp) -> m.told(carp, told));
        }
    }

    private static void notTold() {
        CHECK.refusedBeyond(Check.OUTSIDE, "told(0, what)", 0, 4, (m, what) -> m.told(0, what));
        CHECK.refusedBeyond(Check.OUTSIDE, "told(30, what)", 0, 4, (m, what) -> m.told(30, what));
    }

    private static void changesNothing() {
        for (int carp = 0; carp < 3; carp++) {
            for (int what = 0; what < 5; what++) {
                int one = carp;
                int told = what;
                CHECK.changesNothing("told(" + one + ", " + told + ")", Gardens::busy, m -> m.told(one, told));
            }
        }
    }
}
