/** Promise 8: sell. */
public final class Promise08SellTest {
    private static final Check CHECK = new Check("Promise 8, sell");

    public static void main(String[] args) {
        CHECK.test("a carp is sold for half of its size (cut), and 1, and the coins then are returned",
            Promise08SellTest::halfOfItsSize);
        CHECK.test("it is in the garden no more", Promise08SellTest::noMoreThere);
        CHECK.test("one that is sold grows and shrinks no more", Promise08SellTest::growsNoMore);
        CHECK.test("there is no such carp", Promise08SellTest::noSuchCarp);
        CHECK.test("there is none at all", Promise08SellTest::noneAtAll);
        CHECK.test("it is the first, it is the last of 30", Promise08SellTest::firstAndLast);
        CHECK.test("it is sold", Promise08SellTest::soldTwice);
        CHECK.test("all are sold", Promise08SellTest::allSold);
        CHECK.test("the exception that is named first is thrown", Promise08SellTest::firstNamed);
        CHECK.end();
    }

    private static void halfOfItsSize() {
        for (int size = 1; size <= 40; size++) {
            MoonGate m = new MoonGate();
            m.dig(4, 4);
            m.carp(4, 4);
            if (size > 1) {
                m.pass(size - 1);
            }
            CHECK.due("size", size, m.told(0, 2));
            CHECK.due("sell of size " + size, 90 + size / 2 + 1, m.sell(0));
            CHECK.due("coins", 90 + size / 2 + 1, m.count(2));
        }
        MoonGate oldest = new MoonGate();
        oldest.dig(4, 4);
        oldest.carp(4, 4);
        oldest.pass(60);
        CHECK.due("sell of the greatest", 111, oldest.sell(0));
    }

    private static void noMoreThere() {
        MoonGate m = new MoonGate();
        m.dig(4, 4);
        m.carp(4, 4);
        m.carp(4, 4);
        m.pass(2);
        m.sell(1);
        CHECK.due("carps", 1, m.count(6));
        CHECK.due("sizes", 3, m.count(7));
        CHECK.due("carps of the pond", 1, m.cell(4, 4, 4));
        CHECK.dueTold(m, 1, 4, 4, 3, 1, 0);
        CHECK.dueTold(m, 0, 4, 4, 3, 0, 1);
    }

    private static void growsNoMore() {
        MoonGate m = new MoonGate();
        m.dig(4, 4);
        m.carp(4, 4);
        m.carp(4, 4);
        m.pass(4);
        m.sell(0);
        m.pass(1);
        CHECK.due("size of one that is sold", 5, m.told(0, 2));
        CHECK.due("size of the other", 6, m.told(1, 2));
        m.carp(4, 4);
        m.carp(4, 4);
        m.pass(1);
        CHECK.due("size of one that is sold, the pond is too full", 5, m.told(0, 2));
        CHECK.due("size of the other, the pond is too full", 5, m.told(1, 2));
    }

    private static void noSuchCarp() {
        CHECK.refusedBeyond(Check.OUTSIDE, "sell", 0, m -> Gardens.carpsThatCame(m) - 1, MoonGate::sell);
    }

    private static void noneAtAll() {
        for (int carp = -1; carp <= 30; carp++) {
            int none = carp;
            CHECK.refused(Check.OUTSIDE, "sell(" + none + ")", MoonGate::new, m -> m.sell(none));
        }
    }

    private static MoonGate thirty() {
        MoonGate m = Gardens.rich(150);
        m.dig(4, 2);
        for (int carp = 0; carp < 30; carp++) {
            m.carp(4, 2);
        }
        return m;
    }

    private static void firstAndLast() {
        MoonGate m = thirty();
        int coins = m.count(2);
        CHECK.due("sell(0)", coins + 1, m.sell(0));
        CHECK.due("sell(29)", coins + 2, m.sell(29));
        CHECK.due("carps", 28, m.count(6));
        CHECK.refused(Check.OUTSIDE, "sell(30)", Promise08SellTest::thirty, g -> g.sell(30));
    }

    private static void soldTwice() {
        CHECK.refused(Check.UNTIMELY, "sell(2) again", Gardens::busy, m -> m.sell(2));
        CHECK.refused(Check.UNTIMELY, "sell(0) again, others are there", Gardens::most, m -> m.sell(0));
        CHECK.refused(Check.UNTIMELY, "sell(29) again, others are there", Gardens::most, m -> m.sell(29));
        CHECK.refused(Check.UNTIMELY, "sell(0) again, another came since", () -> {
            MoonGate m = Gardens.busy();
            m.sell(0);
            m.carp(4, 2);
            return m;
        }, m -> m.sell(0));
    }

    private static void allSold() {
        MoonGate m = thirty();
        for (int carp = 0; carp < 30; carp++) {
            m.sell(carp);
        }
        CHECK.due("carps", 0, m.count(6));
        CHECK.due("sizes", 0, m.count(7));
        for (int carp = 0; carp < 30; carp++) {
            int sold = carp;
            CHECK.refused(Check.UNTIMELY, "sell(" + sold + ") again", () -> {
                MoonGate g = thirty();
                for (int other = 0; other < 30; other++) {
                    g.sell(other);
                }
                return g;
            }, g -> g.sell(sold));
        }
    }

    private static void firstNamed() {
        CHECK.eachCombination("sell", (m, a) -> m.sell(a[0]), (m, a) -> {
            if (a[0] < 0 || a[0] >= Gardens.carpsThatCame(m)) {
                return Check.OUTSIDE;
            }
            return m.told(a[0], 3) == 1 ? Check.UNTIMELY : null;
        }, new int[] {Integer.MIN_VALUE, -1, 0, 1, 2, 5, 6, 28, 29, 30, Integer.MAX_VALUE});
    }
}
