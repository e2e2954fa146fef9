/** Promise 17: foresee. */
public final class Promise17ForeseeTest {
    private static final Check CHECK = new Check("Promise 17, foresee");
    private static final int[] WHATS = {2, 7, 10};

    public static void main(String[] args) {
        CHECK.test("what count() tells behind so many days, 1 to 60", Promise17ForeseeTest::whatComes);
        CHECK.test("in a garden with nothing in it", Promise17ForeseeTest::nothingInIt);
        CHECK.test("a carp becomes 40, and no more", Promise17ForeseeTest::carpsAtMost);
        CHECK.test("a carp becomes 1, and no less", Promise17ForeseeTest::carpsAtLeast);
        CHECK.test("the full moon is foreseen", Promise17ForeseeTest::fullMoon);
        CHECK.test("it is foreseen once more, when something is done", Promise17ForeseeTest::onceMore);
        CHECK.test("days is not 1 to 60", Promise17ForeseeTest::notSoMany);
        CHECK.test("what is not 2, 7 or 10", Promise17ForeseeTest::notForeseen);
        CHECK.test("the exception that is named first is thrown", Promise17ForeseeTest::firstNamed);
        CHECK.test("nothing is changed", Promise17ForeseeTest::changesNothing);
        CHECK.end();
    }

    private static void whatComes() {
        for (Check.Maker maker : Gardens.EACH) {
            for (int days = 1; days <= 60; days++) {
                MoonGate m = maker.make();
                int[] seen = new int[3];
                for (int i = 0; i < 3; i++) {
                    seen[i] = m.foresee(days, WHATS[i]);
                }
                m.pass(days);
                for (int i = 0; i < 3; i++) {
                    CHECK.due("foresee(" + days + ", " + WHATS[i] + ")", m.count(WHATS[i]), seen[i]);
                }
            }
        }
    }

    private static void nothingInIt() {
        MoonGate m = new MoonGate();
        for (int days = 1; days <= 60; days++) {
            CHECK.due("coins", 100, m.foresee(days, 2));
            CHECK.due("sizes", 0, m.foresee(days, 7));
            CHECK.due("lines", 0, m.foresee(days, 10));
        }
    }

    private static void carpsAtMost() {
        MoonGate m = new MoonGate();
        m.dig(0, 0);
        m.carp(0, 0);
        for (int days = 1; days <= 60; days++) {
            CHECK.due("size behind " + days + " days", Math.min(40, 1 + days), m.foresee(days, 7));
        }
    }

    private static void carpsAtLeast() {
        MoonGate m = new MoonGate();
        m.dig(0, 0);
        m.carp(0, 0);
        m.pass(39);
        m.carp(0, 0);
        m.carp(0, 0);
        for (int days = 1; days <= 60; days++) {
            CHECK.due("sizes behind " + days + " days", Math.max(1, 40 - days) + 2, m.foresee(days, 7));
        }
    }

    private static void fullMoon() {
        MoonGate m = Gardens.writing(2, 2, 2, 2, 2);
        int coins = m.count(2);
        int want = 0;
        for (int day = 0; day < 60; day++) {
            want += day % 8 == 4 ? 2 : 1;
            CHECK.due("lines behind the day " + day, 10 * want, m.foresee(day + 1, 10));
            CHECK.due("coins behind the day " + day, coins + want, m.foresee(day + 1, 2));
        }
    }

    private static void onceMore() {
        MoonGate m = Gardens.writing(2, 2, 2, 2, 2);
        CHECK.due("coins", 81, m.foresee(1, 2));
        m.wall(9, 6);
        CHECK.due("coins, a wall is built", 78, m.foresee(1, 2));
        m.pass(1);
        CHECK.due("coins, a day went by", 79, m.foresee(1, 2));
        m.dig(5, 5);
        m.carp(5, 5);
        CHECK.due("sizes, a carp came", 2, m.foresee(1, 7));
        m.sell(0);
        CHECK.due("sizes, it is sold", 0, m.foresee(60, 7));
    }

    private static void notSoMany() {
        for (int what : WHATS) {
            CHECK.refusedBeyond(Check.SENSELESS, "foresee(days, " + what + ")", 1, 60,
                (m, days) -> m.foresee(days, what));
        }
    }

    private static void notForeseen() {
        int[] none = {Integer.MIN_VALUE, -1, 0, 1, 3, 4, 5, 6, 8, 9, 11, 12, 258, 263, 266, Integer.MAX_VALUE};
        for (Check.Maker maker : Gardens.EACH) {
            for (int what : none) {
                CHECK.refused(Check.OUTSIDE, "foresee(1, " + what + ")", maker, m -> m.foresee(1, what));
                CHECK.refused(Check.OUTSIDE, "foresee(60, " + what + ")", maker, m -> m.foresee(60, what));
            }
        }
    }

    private static void firstNamed() {
        CHECK.eachCombination("foresee", (m, a) -> m.foresee(a[0], a[1]), (m, a) -> {
            if (a[0] < 1 || a[0] > 60) {
                return Check.SENSELESS;
            }
            return a[1] == 2 || a[1] == 7 || a[1] == 10 ? null : Check.OUTSIDE;
        }, new int[] {Integer.MIN_VALUE, -1, 0, 1, 60, 61, Integer.MAX_VALUE},
            new int[] {-1, 0, 1, 2, 3, 6, 7, 8, 9, 10, 11, Integer.MAX_VALUE});
    }

    private static void changesNothing() {
        for (Check.Maker maker : Gardens.EACH) {
            for (int what : WHATS) {
                CHECK.changesNothing("foresee(1, " + what + ")", maker, m -> m.foresee(1, what));
                CHECK.changesNothing("foresee(60, " + what + ")", maker, m -> m.foresee(60, what));
            }
        }
    }
}
