/** Promise 16: pass, and how a day goes. */
public final class Promise16PassTest {
    private static final Check CHECK = new Check("Promise 16, pass");

    public static void main(String[] args) {
        CHECK.test("in a garden with nothing in it only the day is greater", Promise16PassTest::nothingInIt);
        CHECK.test("a carp grows by 1, at most to 40", Promise16PassTest::growsToForty);
        CHECK.test("a carp shrinks by 1, at least to 1", Promise16PassTest::shrinksToOne);
        CHECK.test("too full: more carps than 2 for each of its cells", Promise16PassTest::tooFull);
        CHECK.test("each pond is full or not for itself, all its cells together", Promise16PassTest::pondByPond);
        CHECK.test("carps that are sold make no pond too full", Promise16PassTest::soldMakeRoom);
        CHECK.test("digging and clearing changes how full a pond is", Promise16PassTest::roomComesAndGoes);
        CHECK.test("poets write a fifth (cut) of the beauty", Promise16PassTest::aFifth);
        CHECK.test("each poet's fifth is cut for itself", Promise16PassTest::eachItsFifth);
        CHECK.test("at full moon twice this", Promise16PassTest::twiceAtFullMoon);
        CHECK.test("the moon of a day is that before the day is greater", Promise16PassTest::whichDaysAreFull);
        CHECK.test("the carps come first, then the poets", Promise16PassTest::carpsFirst);
        CHECK.test("for each 10 lines a coin, none for 9", Promise16PassTest::coinsForTen);
        CHECK.test("the lines of all poets are added", Promise16PassTest::coinsForAll);
        CHECK.test("lines of one day are not added to another's", Promise16PassTest::coinsDayByDay);
        CHECK.test("lines at full moon bring coins too", Promise16PassTest::coinsAtFullMoon);
        CHECK.test("without poets nothing is written", Promise16PassTest::withoutPoets);
        CHECK.test("the lines of these days are returned, no earlier ones", Promise16PassTest::linesOfTheseDays);
        CHECK.test("many days are as each for itself", Promise16PassTest::manyDays);
        CHECK.test("days is not 1 to 60", Promise16PassTest::notSoMany);
        CHECK.test("days is 1, days is 60", Promise16PassTest::leastAndMost);
        CHECK.end();
    }

    private static void nothingInIt() {
        MoonGate m = new MoonGate();
        CHECK.due("pass(60)", 0, m.pass(60));
        int[] want = {60, 1, 100, 0, 0, 0, 0, 0, 0, 0, 0};
        for (int what = 0; what <= 10; what++) {
            CHECK.due("count(" + what + ")", want[what], m.count(what));
        }
    }

    private static void growsToForty() {
        MoonGate m = new MoonGate();
        m.dig(0, 0);
        m.carp(0, 0);
        for (int day = 1; day <= 45; day++) {
            m.pass(1);
            CHECK.due("size behind " + day + " days", Math.min(40, 1 + day), m.told(0, 2));
        }
    }

    private static void shrinksToOne() {
        MoonGate m = new MoonGate();
        m.dig(0, 0);
        m.carp(0, 0);
        m.carp(0, 0);
        m.pass(60);
        m.carp(0, 0);
        for (int day = 1; day <= 45; day++) {
            m.pass(1);
            CHECK.due("size behind " + day + " days", Math.max(1, 40 - day), m.told(1, 2));
            CHECK.due("size of the least", 1, m.told(2, 2));
        }
    }

    /** Ponds of 1 to 15 cells, each with 2 carps for a cell, and then with one more. */
    private static void tooFull() {
        for (int cells = 1; cells <= 15; cells++) {
            MoonGate m = Gardens.rich(15 * 6 + 30 * 4);
            for (int place = 0; place < cells; place++) {
                m.dig(place % 10, place / 10);
            }
            for (int carp = 0; carp < 2 * cells; carp++) {
                m.carp(carp % cells % 10, 0);
            }
            m.pass(2);
            CHECK.due("sizes in a pond just full, of " + cells, 2 * cells * 3, m.count(7));
            if (cells < 15) {
                m.carp(0, 0);
                m.pass(1);
                CHECK.due("sizes in a pond too full, of " + cells, 2 * cells * 2 + 1, m.count(7));
            }
        }
    }

    private static void pondByPond() {
        MoonGate m = new MoonGate();
        m.dig(0, 0);
        m.dig(1, 0);
        m.dig(3, 0);
        for (int i = 0; i < 4; i++) {
            m.carp(0, 0);
        }
        for (int i = 0; i < 3; i++) {
            m.carp(3, 0);
        }
        m.pass(5);
        for (int carp = 0; carp < 7; carp++) {
            CHECK.due("size of " + carp, carp < 4 ? 6 : 1, m.told(carp, 2));
        }
    }

    private static void soldMakeRoom() {
        MoonGate m = new MoonGate();
        m.dig(0, 0);
        for (int i = 0; i < 4; i++) {
            m.carp(0, 0);
        }
        m.sell(0);
        m.pass(1);
        CHECK.due("size with 3 carps in a cell", 1, m.told(3, 2));
        m.sell(1);
        m.pass(1);
        CHECK.due("size with 2 carps in a cell", 2, m.told(3, 2));
        CHECK.due("size of one that is sold", 1, m.told(1, 2));
    }

    private static void roomComesAndGoes() {
        MoonGate m = new MoonGate();
        m.dig(0, 0);
        for (int i = 0; i < 3; i++) {
            m.carp(0, 0);
        }
        m.dig(2, 0);
        m.pass(1);
        CHECK.due("size, a pond is dug apart", 1, m.told(0, 2));
        m.dig(1, 0);
        m.pass(1);
        CHECK.due("size, the ponds are joined", 2, m.told(0, 2));
        m.clear(1, 0);
        m.pass(1);
        CHECK.due("size, the ponds are divided", 1, m.told(0, 2));
    }

    /** A gate with a poet, that shows rocks of one shape of these sizes: the beauty is 4 more than these. */
    private static MoonGate shown(int... sizes) {
        MoonGate m = new MoonGate();
        m.gate(0, 0, 1);
        m.invite(0);
        for (int i = 0; i < sizes.length; i++) {
            m.rock(1 + i, 0, 0, sizes[i]);
        }
        return m;
    }

    private static void aFifth() {
        CHECK.due("lines of beauty 0", 0, shown().pass(1));
        for (int size = 1; size <= 6; size++) {
            CHECK.due("lines of beauty " + (size + 4), (size + 4) / 5, shown(size).pass(1));
            CHECK.due("lines of beauty " + (size + 10), (size + 10) / 5, shown(size, 6).pass(1));
        }
        MoonGate pond = new MoonGate();
        pond.gate(0, 0, 1);
        pond.invite(0);
        pond.dig(1, 0);
        CHECK.due("lines of beauty 3", 0, pond.pass(1));
        pond.dig(2, 0);
        CHECK.due("lines of beauty 6", 1, pond.pass(1));
    }

    private static void eachItsFifth() {
        MoonGate two = shown(5);
        two.invite(0);
        CHECK.due("two fifths of 9", 2, two.pass(1));
        CHECK.due("lines(0)", 1, two.lines(0));
        CHECK.due("lines(1)", 1, two.lines(1));
    }

    private static void twiceAtFullMoon() {
        MoonGate nine = shown(5);
        nine.pass(4);
        CHECK.due("twice the cut fifth of 9", 2, nine.pass(1));
        MoonGate ten = shown(6);
        ten.pass(4);
        CHECK.due("twice the fifth of 10", 4, ten.pass(1));
        MoonGate small = shown();
        small.dig(1, 0);
        small.pass(4);
        CHECK.due("twice the cut fifth of 3", 0, small.pass(1));
    }

    private static void whichDaysAreFull() {
        MoonGate m = shown(6);
        for (int day = 0; day < 100; day++) {
            CHECK.due("lines of the day " + day, day % 8 == 4 ? 4 : 2, m.pass(1));
        }
        CHECK.due("lines of the days 0 to 3", 8, shown(6).pass(4));
        CHECK.due("lines of the days 0 to 4", 12, shown(6).pass(5));
    }

    private static void carpsFirst() {
        MoonGate m = shown(1, 1);
        m.dig(3, 0);
        m.dig(3, 1);
        m.carp(3, 0);
        m.pass(8);
        CHECK.due("beauty with a carp of 9", 9, m.about(0, 3));
        CHECK.due("lines, for the carp is 10 first", 2, m.pass(1));
        CHECK.due("beauty with a carp of 10", 10, m.about(0, 3));
        for (int i = 0; i < 4; i++) {
            m.carp(3, 1);
        }
        CHECK.due("lines, for the carp is 9 first", 1, m.pass(1));
        CHECK.due("beauty with a carp of 9", 9, m.about(0, 3));
    }

    private static void coinsForTen() {
        dueCoins(0, 0);
        dueCoins(0, 1);
        dueCoins(0, 2, 2, 2, 2, 1);
        dueCoins(1, 2, 2, 2, 2, 2);
        dueCoins(1, 4, 4, 4, 4, 3);
        dueCoins(2, 4, 4, 4, 4, 4);
        dueCoins(2, 6, 6, 6, 6, 5);
        dueCoins(3, 6, 6, 6, 6, 6);
    }

    private static void dueCoins(int coins, int... lines) {
        MoonGate m = Gardens.writing(lines);
        int before = m.count(2);
        int all = 0;
        for (int of : lines) {
            all += of;
        }
        CHECK.due("lines", all, m.pass(1));
        CHECK.due("coins for " + all + " lines", before + coins, m.count(2));
    }

    private static void coinsForAll() {
        dueCoins(1, 6, 4);
        dueCoins(1, 1, 6, 1, 1, 1);
        dueCoins(0, 6, 3);
    }

    private static void coinsDayByDay() {
        MoonGate m = Gardens.writing(2, 2, 2, 2, 1);
        int before = m.count(2);
        CHECK.due("lines of 4 days", 36, m.pass(4));
        CHECK.due("coins for 4 days of 9 lines", before, m.count(2));
        MoonGate single = Gardens.writing(3, 3);
        before = single.count(2);
        for (int day = 0; day < 4; day++) {
            single.pass(1);
        }
        CHECK.due("coins for 4 days of 6 lines", before, single.count(2));
    }

    private static void coinsAtFullMoon() {
        MoonGate five = Gardens.writing(1, 1, 1, 1, 1);
        five.pass(4);
        int before = five.count(2);
        CHECK.due("lines at full moon", 10, five.pass(1));
        CHECK.due("coins for 10 lines", before + 1, five.count(2));
        MoonGate four = Gardens.writing(1, 1, 1, 1);
        four.pass(4);
        before = four.count(2);
        CHECK.due("lines at full moon", 8, four.pass(1));
        CHECK.due("coins for 8 lines", before, four.count(2));
    }

    private static void withoutPoets() {
        MoonGate m = new MoonGate();
        m.gate(0, 0, 1);
        m.rock(1, 0, 0, 9);
        CHECK.due("pass(60)", 0, m.pass(60));
        CHECK.due("coins", 82, m.count(2));
        CHECK.due("lines", 0, m.count(10));
    }

    private static void linesOfTheseDays() {
        MoonGate m = Gardens.writing(3, 2);
        CHECK.due("pass(3)", 15, m.pass(3));
        CHECK.due("pass(3)", 20, m.pass(3));
        CHECK.due("lines", 35, m.count(10));
    }

    private static void manyDays() {
        for (Check.Maker maker : Gardens.EACH) {
            for (int days = 1; days <= 60; days++) {
                MoonGate at = maker.make();
                MoonGate each = maker.make();
                int lines = 0;
                for (int day = 0; day < days; day++) {
                    lines += each.pass(1);
                }
                CHECK.due("pass(" + days + ")", lines, at.pass(days));
                CHECK.due("digest()", each.digest(), at.digest());
            }
        }
    }

    private static void notSoMany() {
        CHECK.refusedBeyond(Check.SENSELESS, "pass", 1, 60, MoonGate::pass);
    }

    private static void leastAndMost() {
        MoonGate m = shown(6);
        CHECK.due("pass(1)", 2, m.pass(1));
        CHECK.due("day", 1, m.count(0));
        CHECK.due("pass(60)", 60 * 2 + 8 * 2, m.pass(60));
        CHECK.due("day", 61, m.count(0));
    }
}
