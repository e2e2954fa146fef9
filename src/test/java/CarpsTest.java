/** Promises 7 to 9: carp, sell, told. */
public final class CarpsTest {
    private static final Check CHECK = new Check();
    private static final int[] NO_NUMBERS = {-1, 1, 2, 30, Integer.MIN_VALUE, Integer.MAX_VALUE};

    public static void main(String[] args) {
        carpComes();
        carpIsRefused();
        carpCoins();
        thirtyInAll();
        sellBySize();
        sellIsRefused();
        toldOfOne();
        toldRank();
        toldIsRefused();
        CHECK.end("CarpsTest");
    }

    private static void dueTold(MoonGate m, int carp, int... want) {
        for (int what = 0; what < 5; what++) {
            CHECK.due("told(" + carp + ", " + what + ")", want[what], m.told(carp, what));
        }
    }

    private static void carpComes() {
        MoonGate m = new MoonGate();
        m.dig(9, 6);
        m.dig(0, 0);
        CHECK.due("carp(9, 6)", 0, m.carp(9, 6));
        CHECK.due("coins", 84, m.count(2));
        CHECK.due("carp(0, 0)", 1, m.carp(0, 0));
        CHECK.due("carp(9, 6) again", 2, m.carp(9, 6));
        dueTold(m, 0, 9, 6, 1, 0, 1);
        dueTold(m, 1, 0, 0, 1, 0, 1);
        CHECK.due("carps", 3, m.count(6));
        CHECK.due("sizes", 3, m.count(7));
    }

    private static void carpIsRefused() {
        MoonGate m = new MoonGate();
        m.rock(1, 1, 0, 1);
        m.wall(3, 1);
        int[][] outside = {{-1, 0}, {10, 0}, {0, -1}, {0, 7}, {Integer.MAX_VALUE, Integer.MIN_VALUE}};
        for (int[] o : outside) {
            CHECK.outside("carp outside", m, () -> m.carp(o[0], o[1]));
        }
        CHECK.untimely("carp in a bare cell", m, () -> m.carp(0, 0));
        CHECK.untimely("carp in a rock", m, () -> m.carp(1, 1));
        CHECK.untimely("carp in a wall", m, () -> m.carp(3, 1));
    }

    private static void carpCoins() {
        MoonGate m = new MoonGate();
        m.dig(0, 0);
        for (int i = 0; i < 22; i++) {
            m.carp(0, 0);
        }
        CHECK.due("coins", 6, m.count(2));
        m.rock(1, 0, 0, 1);
        CHECK.due("carp for 4 coins", 22, m.carp(0, 0));
        CHECK.due("coins", 0, m.count(2));
        m.sell(0);
        m.sell(1);
        m.sell(2);
        CHECK.due("coins", 3, m.count(2));
        CHECK.untimely("carp for 3 coins", m, () -> m.carp(0, 0));
        CHECK.outside("carp outside for 3 coins", m, () -> m.carp(0, 7));
        CHECK.untimely("carp for 3 coins in a bare cell", m, () -> m.carp(5, 5));
    }

    private static void thirtyInAll() {
        MoonGate m = new MoonGate();
        m.dig(4, 4);
        for (int number = 0; number < 30; number += 2) {
            CHECK.due("carp", number, m.carp(4, 4));
            CHECK.due("carp", number + 1, m.carp(4, 4));
            m.pass(39);
            m.sell(number);
            m.sell(number + 1);
        }
        CHECK.due("carps", 0, m.count(6));
        CHECK.due("coins", 94 + 15 * 34, m.count(2));
        CHECK.untimely("the 31st carp", m, () -> m.carp(4, 4));
        CHECK.outside("the 31st carp, outside", m, () -> m.carp(4, 7));
        CHECK.due("the last one's size", 40, m.told(29, 2));
        CHECK.outside("told of the 31st", m, () -> m.told(30, 2));
        CHECK.outside("sell of the 31st", m, () -> m.sell(30));
    }

    private static void sellBySize() {
        for (int days = 0; days <= 45; days++) {
            MoonGate m = new MoonGate();
            m.dig(4, 4);
            m.carp(4, 4);
            if (days > 0) {
                m.pass(days);
            }
            int size = Math.min(40, 1 + days);
            CHECK.due("sell of size " + size, 90 + size / 2 + 1, m.sell(0));
            CHECK.due("coins", 90 + size / 2 + 1, m.count(2));
            CHECK.due("carps", 0, m.count(6));
            CHECK.due("sizes", 0, m.count(7));
            CHECK.due("carps of the pond", 0, m.cell(4, 4, 4));
        }
    }

    private static void sellIsRefused() {
        MoonGate m = new MoonGate();
        CHECK.outside("sell without carps", m, () -> m.sell(0));
        m.dig(4, 4);
        m.carp(4, 4);
        for (int number : NO_NUMBERS) {
            CHECK.outside("sell of no carp " + number, m, () -> m.sell(number));
        }
        m.sell(0);
        CHECK.untimely("sell twice", m, () -> m.sell(0));
        m.carp(4, 4);
        CHECK.untimely("sell twice, another is there", m, () -> m.sell(0));
    }

    private static void toldOfOne() {
        MoonGate m = new MoonGate();
        m.dig(8, 3);
        m.carp(8, 3);
        m.pass(7);
        dueTold(m, 0, 8, 3, 8, 0, 1);
        m.sell(0);
        dueTold(m, 0, 8, 3, 8, 1, 0);
        m.pass(7);
        m.clear(8, 3);
        dueTold(m, 0, 8, 3, 8, 1, 0);
    }

    private static void toldRank() {
        MoonGate m = new MoonGate();
        m.dig(0, 0);
        m.dig(1, 0);
        m.dig(2, 0);
        m.carp(0, 0);
        m.carp(0, 0);
        m.pass(2);
        m.carp(1, 0);
        m.carp(2, 0);
        m.pass(1);
        m.carp(2, 0);
        dueTold(m, 0, 0, 0, 4, 0, 1);
        dueTold(m, 1, 0, 0, 4, 0, 1);
        dueTold(m, 2, 1, 0, 2, 0, 3);
        dueTold(m, 3, 2, 0, 2, 0, 3);
        dueTold(m, 4, 2, 0, 1, 0, 5);
        m.sell(0);
        dueTold(m, 0, 0, 0, 4, 1, 0);
        dueTold(m, 1, 0, 0, 4, 0, 1);
        dueTold(m, 3, 2, 0, 2, 0, 2);
        dueTold(m, 4, 2, 0, 1, 0, 4);
    }

    private static void toldIsRefused() {
        MoonGate m = new MoonGate();
        CHECK.outside("told without carps", m, () -> m.told(0, 0));
        m.dig(4, 4);
        m.carp(4, 4);
        for (int number : NO_NUMBERS) {
            CHECK.outside("told of no carp " + number, m, () -> m.told(number, 0));
        }
        int[] nothing = {-1, 5, Integer.MIN_VALUE, Integer.MAX_VALUE};
        for (int what : nothing) {
            CHECK.outside("told no " + what, m, () -> m.told(0, what));
        }
    }
}
