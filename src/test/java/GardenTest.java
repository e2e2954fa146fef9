/** Promises 1 to 6: a new object, rock, dig, wall, clear, cell. */
public final class GardenTest {
    private static final Check CHECK = new Check();
    private static final int[][] OUTSIDE = {{-1, 0}, {10, 0}, {0, -1}, {0, 7}, {-1, -1}, {10, 7},
        {Integer.MIN_VALUE, 0}, {0, Integer.MAX_VALUE}, {Integer.MAX_VALUE, Integer.MAX_VALUE}, {-10, 1}, {11, 0}};

    public static void main(String[] args) {
        newObject();
        rockIsBought();
        rockIsRefused();
        rockCoins();
        digJoinsPonds();
        digIsRefused();
        wallIsBuilt();
        wallIsRefused();
        clearSells();
        clearDividesPonds();
        clearIsRefused();
        cellTells();
        cellIsRefused();
        CHECK.end("GardenTest");
    }

    private static void dueCell(MoonGate m, int x, int y, int... want) {
        for (int what = 0; what < 5; what++) {
            CHECK.due("cell(" + x + ", " + y + ", " + what + ")", want[what], m.cell(x, y, what));
        }
    }

    /** Leaves so many coins of the first 100 by walls in the lowest rows and a rock bought and sold. */
    private static MoonGate withCoins(int coins) {
        MoonGate m = new MoonGate();
        int left = 100;
        while (left % 3 != coins % 3) {
            m.rock(0, 6, 0, 1);
            m.clear(0, 6);
            left--;
        }
        for (int place = 69; left > coins; place--) {
            m.wall(place % 10, place / 10);
            left -= 3;
        }
        CHECK.due("coins", coins, m.count(2));
        return m;
    }

    private static void newObject() {
        MoonGate m = new MoonGate();
        long d = 1193;
        for (int what = 0; what <= 10; what++) {
            CHECK.due("new count(" + what + ")", what == 2 ? 100 : 0, m.count(what));
            d = d * 31 + (what == 2 ? 100 : 0);
        }
        for (int y = 0; y < 7; y++) {
            for (int x = 0; x < 10; x++) {
                dueCell(m, x, y, 0, -1, 0, 0, 0);
                d = d * 31 * 31 - 1;
                d = d * 31 * 31 * 31;
            }
        }
        CHECK.due("new digest()", d, m.digest());
        new MoonGate().rock(0, 0, 0, 9);
        CHECK.due("another object's rock is not in this one", d, m.digest());
    }

    private static void rockIsBought() {
        MoonGate m = new MoonGate();
        CHECK.due("rock(0, 0, 0, 1)", 98, m.rock(0, 0, 0, 1));
        CHECK.due("rock(9, 0, 5, 9)", 80, m.rock(9, 0, 5, 9));
        CHECK.due("rock(0, 6, 3, 2)", 76, m.rock(0, 6, 3, 2));
        CHECK.due("rock(9, 6, 4, 7)", 62, m.rock(9, 6, 4, 7));
        dueCell(m, 0, 0, 1, 0, 1, 0, 0);
        dueCell(m, 9, 0, 1, 5, 9, 0, 0);
        dueCell(m, 0, 6, 1, 3, 2, 0, 0);
        dueCell(m, 9, 6, 1, 4, 7, 0, 0);
        dueCell(m, 1, 0, 0, -1, 0, 0, 0);
        CHECK.due("rocks", 4, m.count(3));
        CHECK.due("coins", 62, m.count(2));
    }

    private static void rockIsRefused() {
        MoonGate m = new MoonGate();
        m.rock(1, 1, 0, 1);
        m.dig(2, 1);
        m.wall(3, 1);
        for (int[] o : OUTSIDE) {
            CHECK.outside("rock outside", m, () -> m.rock(o[0], o[1], 0, 1));
            CHECK.outside("rock outside, and no shape", m, () -> m.rock(o[0], o[1], 6, 0));
        }
        int[] noShapes = {-1, 6, Integer.MIN_VALUE, Integer.MAX_VALUE};
        for (int shape : noShapes) {
            CHECK.senseless("rock of no shape", m, () -> m.rock(0, 0, shape, 1));
            CHECK.senseless("rock of no shape, not bare", m, () -> m.rock(1, 1, shape, 1));
        }
        int[] noSizes = {0, 10, -1, Integer.MIN_VALUE, Integer.MAX_VALUE};
        for (int size : noSizes) {
            CHECK.senseless("rock of no size", m, () -> m.rock(0, 0, 0, size));
            CHECK.senseless("rock of no size, not bare", m, () -> m.rock(2, 1, 0, size));
        }
        CHECK.untimely("rock on a rock", m, () -> m.rock(1, 1, 1, 1));
        CHECK.untimely("rock on a pond", m, () -> m.rock(2, 1, 1, 1));
        CHECK.untimely("rock on a wall", m, () -> m.rock(3, 1, 1, 1));
    }

    private static void rockCoins() {
        MoonGate m = withCoins(10);
        CHECK.untimely("rock for 12 of 10 coins", m, () -> m.rock(0, 0, 0, 6));
        CHECK.senseless("rock for 20 of 10 coins, of no size", m, () -> m.rock(0, 0, 0, 10));
        CHECK.due("rock for 10 of 10 coins", 0, m.rock(0, 0, 0, 5));
        CHECK.untimely("rock for 2 of 0 coins", m, () -> m.rock(1, 0, 0, 1));
        MoonGate odd = withCoins(1);
        CHECK.untimely("rock for 2 of 1 coins", odd, () -> odd.rock(0, 0, 0, 1));
    }

    private static void digJoinsPonds() {
        MoonGate m = new MoonGate();
        CHECK.due("dig(0, 0)", 1, m.dig(0, 0));
        CHECK.due("coins", 94, m.count(2));
        CHECK.due("dig(1, 1), aslant", 1, m.dig(1, 1));
        CHECK.due("dig(9, 0)", 1, m.dig(9, 0));
        CHECK.due("dig(0, 1), of which (9, 0) is no neighbour", 3, m.dig(0, 1));
        CHECK.due("ponds", 2, m.count(5));
        CHECK.due("dig(8, 0)", 2, m.dig(8, 0));
        CHECK.due("dig(9, 1)", 3, m.dig(9, 1));
        CHECK.due("dig(8, 1)", 4, m.dig(8, 1));
        CHECK.due("dig(0, 2)", 4, m.dig(0, 2));
        CHECK.due("pond cells", 8, m.count(4));
        dueCell(m, 0, 0, 2, -1, 0, 4, 0);
        dueCell(m, 9, 0, 2, -1, 0, 4, 0);
        CHECK.due("coins", 52, m.count(2));
        m.carp(0, 0);
        m.carp(8, 1);
        CHECK.due("carps of the one pond", 1, m.cell(1, 1, 4));
        CHECK.due("carps of the other pond", 1, m.cell(9, 0, 4));
        MoonGate ring = new MoonGate();
        int[][] cells = {{2, 2}, {4, 2}, {2, 4}, {4, 4}, {3, 2}, {2, 3}, {4, 3}};
        int[] sizes = {1, 1, 1, 1, 3, 5, 7};
        for (int i = 0; i < cells.length; i++) {
            CHECK.due("dig of a ring " + i, sizes[i], ring.dig(cells[i][0], cells[i][1]));
        }
        CHECK.due("dig closes the ring", 8, ring.dig(3, 4));
        CHECK.due("one pond", 1, ring.count(5));
        pondsOfAnyForm();
    }

    /** Each form is reached from its first cell by its number, only by the way in its name. */
    private static void pondsOfAnyForm() {
        dueOnePond("down, right, up", 0, 10, 20, 21, 22, 12, 2);
        dueOnePond("down, left, up", 5, 15, 25, 24, 23, 13);
        dueOnePond("right, down, left", 41, 42, 43, 53, 63, 62, 61);
        dueOnePond("up at the right rim", 8, 18, 28, 29, 19);
        dueOnePond("a column", 9, 19, 29, 39, 49, 59, 69);
        dueOnePond("a row", 60, 61, 62, 63, 64, 65, 66, 67, 68, 69);
    }

    private static void dueOnePond(String form, int... places) {
        MoonGate m = new MoonGate();
        for (int place : places) {
            m.dig(place % 10, place / 10);
        }
        CHECK.due("ponds: " + form, 1, m.count(5));
        for (int place : places) {
            CHECK.due("cells: " + form, places.length, m.cell(place % 10, place / 10, 3));
        }
    }

    private static void digIsRefused() {
        MoonGate m = new MoonGate();
        m.rock(1, 1, 0, 1);
        m.dig(2, 1);
        m.wall(3, 1);
        for (int[] o : OUTSIDE) {
            CHECK.outside("dig outside", m, () -> m.dig(o[0], o[1]));
        }
        CHECK.untimely("dig on a rock", m, () -> m.dig(1, 1));
        CHECK.untimely("dig on a pond", m, () -> m.dig(2, 1));
        CHECK.untimely("dig on a wall", m, () -> m.dig(3, 1));
        MoonGate five = withCoins(5);
        CHECK.untimely("dig for 5 coins", five, () -> five.dig(0, 0));
        CHECK.outside("dig outside for 5 coins", five, () -> five.dig(10, 0));
        MoonGate six = withCoins(6);
        CHECK.due("dig for 6 coins", 1, six.dig(0, 0));
        CHECK.due("coins", 0, six.count(2));
    }

    private static void wallIsBuilt() {
        MoonGate m = new MoonGate();
        CHECK.due("wall(0, 0)", 97, m.wall(0, 0));
        CHECK.due("wall(9, 6)", 94, m.wall(9, 6));
        dueCell(m, 0, 0, 3, -1, 0, 0, 0);
        dueCell(m, 9, 6, 3, -1, 0, 0, 0);
    }

    private static void wallIsRefused() {
        MoonGate m = new MoonGate();
        m.rock(1, 1, 0, 1);
        m.dig(2, 1);
        m.wall(3, 1);
        for (int[] o : OUTSIDE) {
            CHECK.outside("wall outside", m, () -> m.wall(o[0], o[1]));
        }
        CHECK.untimely("wall on a rock", m, () -> m.wall(1, 1));
        CHECK.untimely("wall on a pond", m, () -> m.wall(2, 1));
        CHECK.untimely("wall on a wall", m, () -> m.wall(3, 1));
        MoonGate two = withCoins(2);
        CHECK.untimely("wall for 2 coins", two, () -> two.wall(0, 0));
        CHECK.outside("wall outside for 2 coins", two, () -> two.wall(0, 7));
        MoonGate three = withCoins(3);
        CHECK.due("wall for 3 coins", 0, three.wall(0, 0));
    }

    private static void clearSells() {
        MoonGate m = new MoonGate();
        m.rock(1, 1, 4, 7);
        m.dig(2, 1);
        m.wall(3, 1);
        CHECK.due("clear of a rock", 84, m.clear(1, 1));
        CHECK.due("clear of a pond", 84, m.clear(2, 1));
        CHECK.due("clear of a wall", 84, m.clear(3, 1));
        for (int x = 1; x <= 3; x++) {
            dueCell(m, x, 1, 0, -1, 0, 0, 0);
        }
        CHECK.due("rocks", 0, m.count(3));
        CHECK.due("pond cells", 0, m.count(4));
        CHECK.due("ponds", 0, m.count(5));
        CHECK.due("a cleared cell takes another", 82, m.rock(2, 1, 5, 1));
        dueCell(m, 2, 1, 1, 5, 1, 0, 0);
    }

    private static void clearDividesPonds() {
        MoonGate m = new MoonGate();
        int[][] cross = {{3, 3}, {3, 2}, {4, 3}, {3, 4}, {2, 3}, {2, 4}};
        for (int[] c : cross) {
            m.dig(c[0], c[1]);
        }
        m.carp(2, 4);
        m.carp(2, 3);
        m.carp(4, 3);
        CHECK.due("one pond", 1, m.count(5));
        CHECK.due("carps of it", 3, m.cell(3, 2, 4));
        m.clear(3, 3);
        CHECK.due("three ponds", 3, m.count(5));
        dueCell(m, 3, 2, 2, -1, 0, 1, 0);
        dueCell(m, 4, 3, 2, -1, 0, 1, 1);
        dueCell(m, 3, 4, 2, -1, 0, 3, 2);
        dueCell(m, 2, 3, 2, -1, 0, 3, 2);
    }

    private static void clearIsRefused() {
        MoonGate m = new MoonGate();
        m.dig(2, 1);
        m.dig(3, 1);
        m.carp(2, 1);
        m.carp(2, 1);
        for (int[] o : OUTSIDE) {
            CHECK.outside("clear outside", m, () -> m.clear(o[0], o[1]));
        }
        CHECK.untimely("clear of a bare cell", m, () -> m.clear(0, 0));
        CHECK.untimely("clear with two carps", m, () -> m.clear(2, 1));
        m.sell(0);
        CHECK.untimely("clear with a carp", m, () -> m.clear(2, 1));
        CHECK.due("clear beside a carp", 81, m.clear(3, 1));
        m.sell(1);
        CHECK.due("clear after all carps", 82, m.clear(2, 1));
        CHECK.untimely("clear twice", m, () -> m.clear(2, 1));
    }

    private static void cellTells() {
        MoonGate m = new MoonGate();
        m.dig(5, 5);
        m.dig(6, 5);
        m.dig(0, 0);
        m.carp(6, 5);
        m.carp(6, 5);
        m.carp(5, 5);
        dueCell(m, 5, 5, 2, -1, 0, 2, 3);
        dueCell(m, 6, 5, 2, -1, 0, 2, 3);
        dueCell(m, 0, 0, 2, -1, 0, 1, 0);
        m.sell(1);
        dueCell(m, 5, 5, 2, -1, 0, 2, 2);
    }

    private static void cellIsRefused() {
        MoonGate m = new MoonGate();
        for (int[] o : OUTSIDE) {
            CHECK.outside("cell outside", m, () -> m.cell(o[0], o[1], 0));
        }
        int[] nothing = {-1, 5, Integer.MIN_VALUE, Integer.MAX_VALUE};
        for (int what : nothing) {
            CHECK.outside("cell tells no " + what, m, () -> m.cell(0, 0, what));
        }
    }
}
