/** Promise 11: about, and what a gate shows. */
public final class Promise11AboutTest {
    private static final Check CHECK = new Check("Promise 11, about");

    public static void main(String[] args) {
        CHECK.test("0: the cells beside it to the rim, none at the rim", Promise11AboutTest::toTheRim);
        CHECK.test("the gate's own cell is not shown", Promise11AboutTest::ownCell);
        CHECK.test("to the first wall, without it", Promise11AboutTest::toTheFirstWall);
        CHECK.test("to the first rock of a size of 7 or more, with it", Promise11AboutTest::toTheFirstGreatRock);
        CHECK.test("a rock of size 6 hides nothing", Promise11AboutTest::rockOfSix);
        CHECK.test("the first of walls and great rocks hides", Promise11AboutTest::firstOfBoth);
        CHECK.test("1: rocks in these, 2: pond cells in these", Promise11AboutTest::rocksAndPonds);
        CHECK.test("3: for each rock its size", Promise11AboutTest::sizes);
        CHECK.test("4 more, if none nearer has the same shape", Promise11AboutTest::shapes);
        CHECK.test("nearer is told from the gate on, in each direction", Promise11AboutTest::nearer);
        CHECK.test("for each pond cell 3", Promise11AboutTest::pondCells);
        CHECK.test("a tenth (cut) of the sum of the sizes in the cell", Promise11AboutTest::tenth);
        CHECK.test("the tenth is cut for each cell of a pond", Promise11AboutTest::tenthOfEachCell);
        CHECK.test("carps that are sold, or are in another cell, do not count", Promise11AboutTest::otherCarps);
        CHECK.test("30 carps of 40 in a cell, 9 rocks in a row", Promise11AboutTest::greatest);
        CHECK.test("4: poets at it, 0 to 5", Promise11AboutTest::poets);
        CHECK.test("there is no such gate", Promise11AboutTest::noSuchGate);
        CHECK.test("what is not 0 to 4", Promise11AboutTest::notTold);
        CHECK.test("nothing is changed", Promise11AboutTest::changesNothing);
        CHECK.end();
    }

    private static void toTheRim() {
        for (int place = 0; place < 70; place++) {
            int x = place % 10;
            int y = place / 10;
            MoonGate m = new MoonGate();
            for (int direction = 0; direction < 4; direction++) {
                m.gate(x, y, direction);
            }
            CHECK.dueAbout(m, 0, y, 0, 0, 0, 0);
            CHECK.dueAbout(m, 1, 9 - x, 0, 0, 0, 0);
            CHECK.dueAbout(m, 2, 6 - y, 0, 0, 0, 0);
            CHECK.dueAbout(m, 3, x, 0, 0, 0, 0);
        }
    }

    private static void ownCell() {
        MoonGate m = new MoonGate();
        m.rock(0, 0, 0, 9);
        m.dig(0, 1);
        m.wall(0, 2);
        for (int y = 0; y < 3; y++) {
            m.gate(0, y, 1);
            m.rock(1, y, 0, 1);
            CHECK.dueAbout(m, y, 9, 1, 0, 5, 0);
        }
        m.gate(0, 0, 0);
        CHECK.dueAbout(m, 3, 0, 0, 0, 0, 0);
    }

    private static void toTheFirstWall() {
        MoonGate m = new MoonGate();
        m.gate(0, 0, 1);
        m.rock(1, 0, 0, 2);
        m.dig(8, 0);
        CHECK.dueAbout(m, 0, 9, 1, 1, 9, 0);
        m.wall(9, 0);
        CHECK.dueAbout(m, 0, 8, 1, 1, 9, 0);
        m.wall(4, 0);
        CHECK.dueAbout(m, 0, 3, 1, 0, 6, 0);
        m.wall(2, 0);
        CHECK.dueAbout(m, 0, 1, 1, 0, 6, 0);
        m.clear(1, 0);
        m.wall(1, 0);
        CHECK.dueAbout(m, 0, 0, 0, 0, 0, 0);
    }

    private static void toTheFirstGreatRock() {
        for (int size = 7; size <= 9; size++) {
            MoonGate m = new MoonGate();
            m.gate(9, 0, 3);
            m.rock(0, 0, 0, 1);
            m.dig(1, 0);
            m.rock(5, 0, 2, size);
            CHECK.dueAbout(m, 0, 4, 1, 0, size + 4, 0);
            m.rock(8, 0, 3, size);
            CHECK.dueAbout(m, 0, 1, 1, 0, size + 4, 0);
            m.clear(5, 0);
            m.clear(8, 0);
            CHECK.dueAbout(m, 0, 9, 1, 1, 8, 0);
        }
        MoonGate rim = new MoonGate();
        rim.gate(0, 0, 1);
        rim.rock(9, 0, 0, 7);
        CHECK.dueAbout(rim, 0, 9, 1, 0, 11, 0);
    }

    private static void rockOfSix() {
        MoonGate m = new MoonGate();
        m.gate(9, 0, 3);
        for (int x = 8; x >= 6; x--) {
            m.rock(x, 0, 0, 6);
        }
        m.rock(0, 0, 1, 1);
        CHECK.dueAbout(m, 0, 9, 4, 0, 6 + 4 + 6 + 6 + 1 + 4, 0);
    }

    private static void firstOfBoth() {
        MoonGate wallFirst = new MoonGate();
        wallFirst.gate(0, 0, 1);
        wallFirst.wall(3, 0);
        wallFirst.rock(4, 0, 0, 7);
        CHECK.dueAbout(wallFirst, 0, 2, 0, 0, 0, 0);
        MoonGate rockFirst = new MoonGate();
        rockFirst.gate(0, 0, 1);
        rockFirst.rock(3, 0, 0, 7);
        rockFirst.wall(4, 0);
        CHECK.dueAbout(rockFirst, 0, 3, 1, 0, 11, 0);
    }

    private static void rocksAndPonds() {
        MoonGate m = new MoonGate();
        m.gate(4, 6, 0);
        m.rock(4, 5, 0, 1);
        m.dig(4, 4);
        m.rock(4, 2, 0, 1);
        m.dig(4, 1);
        m.dig(4, 0);
        m.dig(3, 3);
        m.rock(5, 3, 1, 5);
        CHECK.dueAbout(m, 0, 6, 2, 3, 1 + 4 + 3 + 1 + 3 + 3, 0);
    }

    private static void sizes() {
        for (int size = 1; size <= 9; size++) {
            MoonGate m = new MoonGate();
            m.gate(0, 0, 1);
            m.rock(1, 0, 3, 2);
            m.rock(2, 0, 3, size);
            CHECK.due("beauty with a rock of size " + size, 2 + 4 + size, m.about(0, 3));
        }
    }

    private static void shapes() {
        MoonGate m = new MoonGate();
        m.gate(0, 0, 1);
        int beauty = 0;
        for (int shape = 0; shape <= 5; shape++) {
            m.rock(1 + shape, 0, shape, 1);
            beauty += 5;
            CHECK.due("beauty with the shape " + shape, beauty, m.about(0, 3));
        }
        m.rock(7, 0, 0, 1);
        CHECK.due("beauty with the shape 0 again", beauty + 1, m.about(0, 3));
        m.rock(8, 0, 5, 1);
        CHECK.due("beauty with the shape 5 again", beauty + 2, m.about(0, 3));
        m.clear(1, 0);
        CHECK.due("beauty, the nearer one of shape 0 is gone", beauty + 1, m.about(0, 3));
    }

    /** A great rock of the shape 0 is the first or the last of two; what it hides counts for nothing. */
    private static void nearer() {
        int[][] near = {{4, 2}, {5, 3}, {4, 4}, {3, 3}};
        int[][] far = {{4, 1}, {6, 3}, {4, 5}, {2, 3}};
        for (int direction = 0; direction < 4; direction++) {
            MoonGate m = new MoonGate();
            m.gate(4, 3, direction);
            m.rock(near[direction][0], near[direction][1], 0, 2);
            m.rock(far[direction][0], far[direction][1], 0, 8);
            CHECK.due("beauty in the direction " + direction, 2 + 4 + 8, m.about(0, 3));
            MoonGate turned = new MoonGate();
            turned.gate(4, 3, direction);
            turned.rock(near[direction][0], near[direction][1], 0, 8);
            turned.rock(far[direction][0], far[direction][1], 0, 2);
            CHECK.due("beauty in the direction " + direction, 8 + 4, turned.about(0, 3));
        }
    }

    private static void pondCells() {
        MoonGate m = new MoonGate();
        m.gate(0, 0, 1);
        for (int x = 1; x <= 9; x++) {
            m.dig(x, 0);
            CHECK.dueAbout(m, 0, 9, 0, x, 3 * x, 0);
        }
    }

    private static void tenth() {
        MoonGate m = new MoonGate();
        m.gate(0, 0, 1);
        m.dig(1, 0);
        m.carp(1, 0);
        for (int size = 1; size <= 40; size++) {
            CHECK.due("beauty with a carp of " + size, 3 + size / 10, m.about(0, 3));
            m.pass(1);
        }
        MoonGate two = new MoonGate();
        two.gate(0, 0, 1);
        two.dig(1, 0);
        two.carp(1, 0);
        two.carp(1, 0);
        for (int size = 1; size <= 40; size++) {
            CHECK.due("beauty with two carps of " + size, 3 + 2 * size / 10, two.about(0, 3));
            two.pass(1);
        }
    }

    private static void tenthOfEachCell() {
        MoonGate m = new MoonGate();
        m.gate(0, 0, 1);
        m.dig(1, 0);
        m.dig(2, 0);
        m.carp(1, 0);
        m.carp(2, 0);
        m.pass(8);
        CHECK.due("beauty with 9 in each of two cells", 6, m.about(0, 3));
        m.pass(1);
        CHECK.due("beauty with 10 in each of two cells", 8, m.about(0, 3));
    }

    private static void otherCarps() {
        MoonGate m = new MoonGate();
        m.gate(0, 0, 1);
        m.dig(1, 0);
        m.dig(1, 1);
        m.carp(1, 1);
        m.carp(1, 0);
        m.carp(1, 0);
        m.pass(19);
        CHECK.due("beauty with 20 in another cell", 7, m.about(0, 3));
        m.sell(1);
        CHECK.due("beauty, one of 20 is sold", 5, m.about(0, 3));
        m.sell(2);
        CHECK.due("beauty, both are sold", 3, m.about(0, 3));
    }

    private static void greatest() {
        MoonGate m = Gardens.rich(15 * 6 + 30 * 4);
        for (int x = 1; x < 10; x++) {
            m.dig(x, 0);
        }
        for (int x = 4; x < 10; x++) {
            m.dig(x, 1);
        }
        for (int carp = 0; carp < 30; carp++) {
            m.carp(9, 0);
        }
        m.pass(60);
        CHECK.dueAbout(m, 0, 9, 0, 9, 9 * 3 + 120, 5);
        MoonGate rocks = Gardens.rich(9 * 12);
        for (int x = 1; x < 10; x++) {
            rocks.rock(x, 0, x % 6, 6);
        }
        CHECK.dueAbout(rocks, 0, 9, 9, 0, 9 * 6 + 6 * 4, 5);
    }

    private static void poets() {
        MoonGate m = new MoonGate();
        m.gate(0, 0, 1);
        m.gate(0, 0, 1);
        CHECK.due("poets at 0", 0, m.about(0, 4));
        for (int poet = 0; poet < 5; poet++) {
            m.invite(0);
            CHECK.due("poets at 0", poet + 1, m.about(0, 4));
            CHECK.due("poets at 1", 0, m.about(1, 4));
        }
        for (int poet = 0; poet < 5; poet++) {
            m.lead(poet, 1);
            CHECK.due("poets at 0", 4 - poet, m.about(0, 4));
            CHECK.due("poets at 1", poet + 1, m.about(1, 4));
        }
    }

    private static void noSuchGate() {
        for (int what = 0; what < 5; what++) {
            int told = what;
            CHECK.refusedBeyond(Check.OUTSIDE, "about(gate, " + told + ")", 0, m -> m.count(8) - 1,
                (m, gate) -> m.about(gate, told));
        }
    }

    private static void notTold() {
        CHECK.refusedBeyond(Check.OUTSIDE, "about(0, what)", 0, 4, (m, what) -> m.about(0, what));
        CHECK.refusedBeyond(Check.OUTSIDE, "about(6, what)", 0, 4, (m, what) -> m.about(6, what));
    }

    private static void changesNothing() {
        for (int gate = 0; gate < 3; gate++) {
            for (int what = 0; what < 5; what++) {
                int one = gate;
                int told = what;
                CHECK.changesNothing("about(" + one + ", " + told + ")", Gardens::busy, m -> m.about(one, told));
            }
        }
    }
}
