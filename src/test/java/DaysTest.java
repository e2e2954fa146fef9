/** Promises 16 to 21: pass, foresee, advise, finest, mean, digest. */
public final class DaysTest {
    private static final Check CHECK = new Check();
    private static final int[] NO_DAYS = {0, -1, 61, 62, Integer.MIN_VALUE, Integer.MAX_VALUE};

    public static void main(String[] args) {
        passGrowsCarps();
        passShrinksCarps();
        passPondByPond();
        passWritesAFifth();
        passWritesTwiceAtFullMoon();
        passGrowsBeforeItWrites();
        passBringsCoinsDayByDay();
        passIsRefused();
        foreseeIsWhatComes();
        foreseeIsRefused();
        adviseFindsTheLeastPlace();
        adviseAgainstHiding();
        adviseWithoutCoins();
        adviseIsRefused();
        finestGate();
        meanBeauty();
        digestOfAll();
        CHECK.end("DaysTest");
    }

    private static void passGrowsCarps() {
        MoonGate m = new MoonGate();
        m.dig(0, 0);
        m.carp(0, 0);
        m.carp(0, 0);
        for (int day = 1; day <= 45; day++) {
            CHECK.due("pass without poets", 0, m.pass(1));
            CHECK.due("size of a pond that is just full", Math.min(40, 1 + day), m.told(0, 2));
            CHECK.due("size of the other", Math.min(40, 1 + day), m.told(1, 2));
            CHECK.due("day", day, m.count(0));
        }
    }

    private static void passShrinksCarps() {
        MoonGate m = new MoonGate();
        m.dig(0, 0);
        m.carp(0, 0);
        m.carp(0, 0);
        m.pass(4);
        m.carp(0, 0);
        int[] want = {4, 3, 2, 1, 1, 1};
        for (int size : want) {
            m.pass(1);
            CHECK.due("size in a pond that is too full", size, m.told(0, 2));
            CHECK.due("size of the least", 1, m.told(2, 2));
        }
        m.sell(1);
        m.pass(1);
        CHECK.due("size after one is sold", 2, m.told(2, 2));
        m.carp(0, 0);
        m.pass(1);
        CHECK.due("size in a pond too full again", 1, m.told(2, 2));
        m.dig(0, 1);
        m.pass(1);
        CHECK.due("size in a greater pond", 2, m.told(2, 2));
        CHECK.due("one that is sold does not change", 1, m.told(1, 2));
        m.clear(0, 1);
        m.pass(1);
        CHECK.due("size in a smaller pond", 1, m.told(2, 2));
    }

    private static void passPondByPond() {
        MoonGate m = new MoonGate();
        m.dig(0, 0);
        m.dig(1, 0);
        m.dig(3, 0);
        for (int i = 0; i < 4; i++) {
            m.carp(0, 0);
        }
        for (int i = 0; i < 3; i++) {
            m.carp(3, 0);
        }
        m.pass(5);
        CHECK.due("4 carps in 2 cells grow", 6, m.told(3, 2));
        CHECK.due("3 carps in a cell do not", 1, m.told(4, 2));
        m.dig(2, 0);
        m.pass(5);
        CHECK.due("7 carps in 4 cells grow", 11, m.told(0, 2));
        CHECK.due("7 carps in 4 cells grow", 6, m.told(6, 2));
        m.carp(3, 0);
        m.carp(3, 0);
        m.pass(1);
        CHECK.due("9 carps in 4 cells shrink", 10, m.told(0, 2));
        CHECK.due("sizes", 4 * 10 + 3 * 5 + 2, m.count(7));
    }

    /** A gate with a poet, that shows rocks of one shape of these sizes. */
    private static MoonGate shown(int... sizes) {
        MoonGate m = new MoonGate();
        m.gate(0, 0, 1);
        m.invite(0);
        for (int i = 0; i < sizes.length; i++) {
            m.rock(1 + i, 0, 0, sizes[i]);
        }
        return m;
    }

    private static void passWritesAFifth() {
        for (int size = 1; size <= 6; size++) {
            CHECK.due("lines of beauty " + (size + 4), (size + 4) / 5, shown(size).pass(1));
            CHECK.due("lines of beauty " + (size + 10), (size + 10) / 5, shown(size, 6).pass(1));
        }
        MoonGate two = shown(5);
        two.invite(0);
        CHECK.due("two fifths of 9, each cut", 2, two.pass(1));
        CHECK.due("in three days", 6, two.pass(3));
        CHECK.due("lines(0)", 4, two.lines(0));
        CHECK.due("lines(1)", 4, two.lines(1));
        CHECK.due("no lines without beauty", 0, shown().pass(60));
        CHECK.due("no lines of beauty under 5", 0, pondGate().pass(7));
    }

    private static MoonGate pondGate() {
        MoonGate m = new MoonGate();
        m.gate(0, 0, 1);
        m.invite(0);
        m.dig(1, 0);
        return m;
    }

    private static void passWritesTwiceAtFullMoon() {
        MoonGate m = shown(5);
        int all = 0;
        for (int day = 0; day < 30; day++) {
            int want = day % 8 == 4 ? 2 : 1;
            CHECK.due("lines of the day " + day, want, m.pass(1));
            all += want;
            CHECK.due("lines in all", all, m.lines(0));
        }
        CHECK.due("lines of 5 days", 6, shown(5).pass(5));
        CHECK.due("lines of 4 days", 4, shown(5).pass(4));
        CHECK.due("lines of 60 days", 67, shown(5).pass(60));
    }

    private static void passGrowsBeforeItWrites() {
        MoonGate m = pondGate();
        m.rock(2, 0, 0, 1);
        m.rock(3, 0, 0, 1);
        m.carp(1, 0);
        m.pass(8);
        CHECK.due("beauty", 9, m.about(0, 3));
        CHECK.due("the carp is 9", 9, m.told(0, 2));
        CHECK.due("lines, for the carp is 10 first", 2, m.pass(1));
    }

    private static void passBringsCoinsDayByDay() {
        MoonGate nine = shown(6, 6, 6);
        int coins = nine.count(2);
        nine.invite(0);
        CHECK.due("two times 4 lines a day", 8 * 4, nine.pass(4));
        CHECK.due("no coins for 8 lines a day", coins, nine.count(2));
        CHECK.due("twice at full moon", 16, nine.pass(1));
        CHECK.due("a coin for 16 lines", coins + 1, nine.count(2));
        nine.invite(0);
        CHECK.due("three times 4 lines", 12, nine.pass(1));
        CHECK.due("a coin for 12 lines", coins + 2, nine.count(2));
        MoonGate ten = shown(6);
        int before = ten.count(2);
        for (int poet = 1; poet < 5; poet++) {
            ten.invite(0);
        }
        CHECK.due("5 poets of 2 lines", 10, ten.pass(1));
        CHECK.due("a coin for 10 lines", before + 1, ten.count(2));
        CHECK.due("60 days", 10 * 60 + 10 * 8, ten.pass(60));
        CHECK.due("coins of 61 days", before + 61 + 8, ten.count(2));
    }

    private static void passIsRefused() {
        MoonGate m = shown(6);
        for (int days : NO_DAYS) {
            CHECK.senseless("pass(" + days + ")", m, () -> m.pass(days));
        }
        CHECK.due("pass(60)", 60 * 2 + 7 * 2, m.pass(60));
        CHECK.due("day", 60, m.count(0));
    }

    private static MoonGate busy() {
        MoonGate m = new MoonGate();
        m.dig(3, 0);
        m.dig(4, 0);
        m.dig(4, 2);
        m.rock(5, 0, 1, 6);
        m.rock(6, 0, 2, 4);
        for (int i = 0; i < 3; i++) {
            m.carp(3, 0);
            m.carp(4, 2);
        }
        m.gate(0, 0, 1);
        m.gate(4, 6, 0);
        for (int i = 0; i < 4; i++) {
            m.invite(i % 2);
        }
        m.pass(3);
        return m;
    }

    private static void foreseeIsWhatComes() {
        int[] whats = {2, 7, 10};
        for (int days = 1; days <= 60; days++) {
            MoonGate m = busy();
            long before = m.digest();
            int[] seen = new int[3];
            for (int i = 0; i < 3; i++) {
                seen[i] = m.foresee(days, whats[i]);
                CHECK.due("nothing is changed", before, m.digest());
            }
            m.pass(days);
            for (int i = 0; i < 3; i++) {
                CHECK.due("foresee(" + days + ", " + whats[i] + ")", m.count(whats[i]), seen[i]);
            }
        }
        MoonGate plain = new MoonGate();
        CHECK.due("coins of a bare garden", 100, plain.foresee(60, 2));
        CHECK.due("sizes of a bare garden", 0, plain.foresee(60, 7));
        CHECK.due("lines of a bare garden", 0, plain.foresee(60, 10));
        plain.dig(0, 0);
        plain.carp(0, 0);
        CHECK.due("size behind a day", 2, plain.foresee(1, 7));
        CHECK.due("size behind 60 days", 40, plain.foresee(60, 7));
        CHECK.due("size now", 1, plain.count(7));
    }

    private static void foreseeIsRefused() {
        MoonGate m = busy();
        for (int days : NO_DAYS) {
            CHECK.senseless("foresee(" + days + ", 2)", m, () -> m.foresee(days, 2));
            CHECK.senseless("foresee(" + days + ", 3)", m, () -> m.foresee(days, 3));
        }
        for (int what = -2; what <= 13; what++) {
            int asked = what;
            if (what != 2 && what != 7 && what != 10) {
                CHECK.outside("foresee(1, " + what + ")", m, () -> m.foresee(1, asked));
            }
        }
        CHECK.outside("foresee(60, least)", m, () -> m.foresee(60, Integer.MIN_VALUE));
        CHECK.outside("foresee(60, greatest)", m, () -> m.foresee(60, Integer.MAX_VALUE));
    }

    private static void dueAdvice(MoonGate m, int gate, int shape, int size, int want) {
        long before = m.digest();
        CHECK.due("advise(" + gate + ", " + shape + ", " + size + ")", want, m.advise(gate, shape, size));
        CHECK.due("nothing is changed", before, m.digest());
    }

    private static void adviseFindsTheLeastPlace() {
        MoonGate m = new MoonGate();
        m.gate(4, 3, 0);
        m.gate(4, 3, 1);
        m.gate(4, 3, 2);
        m.gate(4, 3, 3);
        m.gate(0, 0, 3);
        m.gate(9, 6, 2);
        dueAdvice(m, 0, 0, 1, 4);
        dueAdvice(m, 1, 5, 9, 35);
        dueAdvice(m, 2, 0, 6, 44);
        dueAdvice(m, 3, 0, 6, 30);
        dueAdvice(m, 4, 0, 6, -1);
        dueAdvice(m, 5, 0, 6, -1);
        m.rock(4, 0, 3, 2);
        dueAdvice(m, 0, 3, 2, 14);
        m.dig(4, 1);
        m.wall(4, 2);
        dueAdvice(m, 0, 3, 2, -1);
        m.wall(5, 3);
        dueAdvice(m, 1, 3, 2, -1);
        MoonGate corners = new MoonGate();
        corners.gate(2, 0, 3);
        corners.gate(0, 2, 0);
        corners.gate(8, 6, 1);
        corners.gate(9, 5, 2);
        dueAdvice(corners, 0, 3, 2, 0);
        dueAdvice(corners, 1, 3, 2, 0);
        dueAdvice(corners, 2, 3, 2, 69);
        dueAdvice(corners, 3, 3, 2, 69);
    }

    private static void adviseAgainstHiding() {
        MoonGate m = new MoonGate();
        m.gate(0, 0, 1);
        m.rock(2, 0, 0, 5);
        m.rock(5, 0, 1, 3);
        dueAdvice(m, 0, 2, 7, 6);
        dueAdvice(m, 0, 0, 7, 6);
        dueAdvice(m, 0, 2, 6, 1);
        m.rock(6, 0, 2, 6);
        m.rock(7, 0, 3, 6);
        m.rock(8, 0, 4, 6);
        dueAdvice(m, 0, 0, 7, 9);
        m.wall(9, 0);
        dueAdvice(m, 0, 0, 7, -1);
        dueAdvice(m, 0, 5, 9, -1);
        dueAdvice(m, 0, 0, 1, 1);
        MoonGate equal = new MoonGate();
        equal.gate(0, 0, 1);
        equal.rock(2, 0, 0, 7);
        dueAdvice(equal, 0, 1, 7, -1);
        dueAdvice(equal, 0, 1, 8, 1);
        dueAdvice(equal, 0, 0, 7, -1);
        dueAdvice(equal, 0, 0, 6, 1);
    }

    private static void adviseWithoutCoins() {
        MoonGate m = new MoonGate();
        m.gate(0, 6, 1);
        for (int x = 0; x < 5; x++) {
            m.rock(x, 0, 0, 9);
        }
        m.rock(5, 0, 0, 5);
        CHECK.due("coins", 0, m.count(2));
        dueAdvice(m, 0, 0, 9, 61);
    }

    private static void adviseIsRefused() {
        MoonGate m = new MoonGate();
        CHECK.outside("advise without gates", m, () -> m.advise(0, 0, 1));
        CHECK.outside("advise without gates, of no shape", m, () -> m.advise(0, 6, 0));
        m.gate(0, 0, 1);
        int[] noGates = {-1, 1, 6, Integer.MIN_VALUE, Integer.MAX_VALUE};
        for (int gate : noGates) {
            CHECK.outside("advise no gate " + gate, m, () -> m.advise(gate, 0, 1));
            CHECK.outside("advise no gate, of no size " + gate, m, () -> m.advise(gate, 0, 10));
        }
        int[] noShapes = {-1, 6, Integer.MIN_VALUE, Integer.MAX_VALUE};
        for (int shape : noShapes) {
            CHECK.senseless("advise no shape " + shape, m, () -> m.advise(0, shape, 1));
        }
        int[] noSizes = {0, 10, Integer.MIN_VALUE, Integer.MAX_VALUE};
        for (int size : noSizes) {
            CHECK.senseless("advise no size " + size, m, () -> m.advise(0, 0, size));
        }
    }

    private static void finestGate() {
        MoonGate m = new MoonGate();
        CHECK.due("finest of none", -1, m.finest());
        m.gate(0, 0, 1);
        CHECK.due("finest of one without beauty", 0, m.finest());
        m.gate(0, 1, 1);
        m.gate(0, 2, 1);
        CHECK.due("finest of equal ones", 0, m.finest());
        m.rock(5, 2, 0, 2);
        CHECK.due("finest is 2", 2, m.finest());
        m.rock(5, 1, 0, 2);
        CHECK.due("finest of 1 and 2, which are equal", 1, m.finest());
        m.rock(5, 0, 0, 3);
        CHECK.due("finest is 0", 0, m.finest());
    }

    private static void meanBeauty() {
        MoonGate m = new MoonGate();
        CHECK.dueDouble("mean of none", 0.0, m.mean());
        m.gate(0, 0, 1);
        CHECK.dueDouble("mean of 0", 0.0, m.mean());
        m.rock(5, 0, 0, 3);
        CHECK.dueDouble("mean of 7", 7.0, m.mean());
        m.gate(0, 1, 1);
        CHECK.dueDouble("mean of 7, 0", 3.5, m.mean());
        m.dig(1, 1);
        m.gate(0, 2, 1);
        CHECK.dueDouble("mean of 7, 3, 0", 10.0 / 3.0, m.mean());
    }

    private static long digestByAnswers(MoonGate m) {
        long d = 1193;
        for (int what = 0; what < 11; what++) {
            d = d * 31 + m.count(what);
        }
        for (int place = 0; place < 70; place++) {
            for (int what = 0; what < 5; what++) {
                d = d * 31 + m.cell(place % 10, place / 10, what);
            }
        }
        int carps = 0;
        for (boolean more = true; more;) {
            try {
                for (int what = 0; what < 5; what++) {
                    d = d * 31 + m.told(carps, what);
                }
                carps++;
            } catch (IndexOutOfBoundsException e) {
                more = false;
            }
        }
        for (int gate = 0; gate < m.count(8); gate++) {
            for (int what = 0; what < 5; what++) {
                d = d * 31 + m.about(gate, what);
            }
        }
        for (int poet = 0; poet < m.count(9); poet++) {
            d = d * 31 + m.lines(poet);
        }
        return d;
    }

    private static void digestOfAll() {
        MoonGate m = busy();
        CHECK.due("digest()", digestByAnswers(m), m.digest());
        m.sell(2);
        m.lead(3, 0);
        m.wall(9, 6);
        CHECK.due("digest()", digestByAnswers(m), m.digest());
        m.pass(29);
        CHECK.due("digest()", digestByAnswers(m), m.digest());
        CHECK.due("digest() again", m.digest(), m.digest());
    }
}
