/** Promises 10 to 15: gate, about, invite, lead, lines, count. */
public final class GatesTest {
    private static final Check CHECK = new Check();
    private static final int[] NO_NUMBERS = {-1, 1, 2, 5, 6, Integer.MIN_VALUE, Integer.MAX_VALUE};

    public static void main(String[] args) {
        gateLooksFourWays();
        gateStandsAnywhere();
        gateIsRefused();
        aboutTheRim();
        aboutWalls();
        aboutGreatRocks();
        aboutShapes();
        aboutCarps();
        aboutPoets();
        aboutIsRefused();
        inviteIsRefused();
        leadFromGateToGate();
        leadIsRefused();
        linesAreWritten();
        linesAreRefused();
        countTells();
        countIsRefused();
        CHECK.end("GatesTest");
    }

    private static void dueAbout(MoonGate m, int gate, int... want) {
        for (int what = 0; what < 5; what++) {
            CHECK.due("about(" + gate + ", " + what + ")", want[what], m.about(gate, what));
        }
    }

    private static void gateLooksFourWays() {
        MoonGate m = new MoonGate();
        m.rock(3, 0, 0, 1);
        m.rock(9, 2, 1, 2);
        m.rock(3, 6, 2, 3);
        m.rock(0, 2, 3, 4);
        for (int direction = 0; direction < 4; direction++) {
            CHECK.due("gate", direction, m.gate(3, 2, direction));
        }
        dueAbout(m, 0, 2, 1, 0, 5, 0);
        dueAbout(m, 1, 6, 1, 0, 6, 0);
        dueAbout(m, 2, 4, 1, 0, 7, 0);
        dueAbout(m, 3, 3, 1, 0, 8, 0);
        CHECK.due("coins", 80, m.count(2));
    }

    private static void gateStandsAnywhere() {
        MoonGate m = new MoonGate();
        m.rock(0, 0, 0, 9);
        m.dig(0, 1);
        m.wall(0, 2);
        CHECK.due("gate in a rock", 0, m.gate(0, 0, 1));
        CHECK.due("gate in a pond", 1, m.gate(0, 1, 1));
        CHECK.due("gate in a wall", 2, m.gate(0, 2, 1));
        CHECK.due("gate in the same cell", 3, m.gate(0, 2, 1));
        for (int gate = 0; gate < 4; gate++) {
            dueAbout(m, gate, 9, 0, 0, 0, 0);
        }
        CHECK.due("the cell stays", 1, m.cell(0, 0, 0));
    }

    private static void gateIsRefused() {
        MoonGate m = new MoonGate();
        int[][] outside = {{-1, 0}, {10, 0}, {0, -1}, {0, 7}, {Integer.MAX_VALUE, Integer.MIN_VALUE}};
        int[] noDirections = {-1, 4, Integer.MIN_VALUE, Integer.MAX_VALUE};
        for (int many = 0; many <= 6; many += 6) {
            for (int[] o : outside) {
                CHECK.outside("gate outside", m, () -> m.gate(o[0], o[1], 0));
                CHECK.outside("gate outside, no direction", m, () -> m.gate(o[0], o[1], 4));
            }
            for (int direction : noDirections) {
                CHECK.senseless("gate of no direction", m, () -> m.gate(0, 0, direction));
            }
            for (int gate = 0; gate < 6 && many == 0; gate++) {
                CHECK.due("gate", gate, m.gate(9, 6, gate % 4));
            }
        }
        CHECK.untimely("the 7th gate", m, () -> m.gate(0, 0, 0));
        CHECK.due("gates", 6, m.count(8));
    }

    private static void aboutTheRim() {
        for (int y = 0; y < 7; y++) {
            for (int x = 0; x < 10; x++) {
                MoonGate m = new MoonGate();
                for (int direction = 0; direction < 4; direction++) {
                    m.gate(x, y, direction);
                }
                dueAbout(m, 0, y, 0, 0, 0, 0);
                dueAbout(m, 1, 9 - x, 0, 0, 0, 0);
                dueAbout(m, 2, 6 - y, 0, 0, 0, 0);
                dueAbout(m, 3, x, 0, 0, 0, 0);
            }
        }
    }

    private static void aboutWalls() {
        MoonGate m = new MoonGate();
        m.gate(0, 0, 1);
        m.rock(2, 0, 0, 2);
        m.dig(6, 0);
        dueAbout(m, 0, 9, 1, 1, 9, 0);
        m.wall(4, 0);
        dueAbout(m, 0, 3, 1, 0, 6, 0);
        m.wall(1, 0);
        dueAbout(m, 0, 0, 0, 0, 0, 0);
        m.clear(1, 0);
        dueAbout(m, 0, 3, 1, 0, 6, 0);
    }

    private static void aboutGreatRocks() {
        MoonGate m = new MoonGate();
        m.gate(9, 0, 3);
        m.rock(0, 0, 0, 1);
        m.rock(7, 0, 1, 6);
        dueAbout(m, 0, 9, 2, 0, 15, 0);
        m.rock(5, 0, 2, 7);
        dueAbout(m, 0, 4, 2, 0, 21, 0);
        m.rock(6, 0, 3, 9);
        dueAbout(m, 0, 3, 2, 0, 23, 0);
        m.clear(5, 0);
        m.clear(6, 0);
        m.rock(8, 0, 1, 8);
        dueAbout(m, 0, 1, 1, 0, 12, 0);
    }

    private static void aboutShapes() {
        MoonGate m = new MoonGate();
        m.gate(4, 6, 0);
        m.rock(4, 5, 0, 1);
        m.rock(4, 4, 1, 2);
        m.rock(4, 3, 0, 3);
        m.rock(4, 2, 1, 4);
        m.rock(4, 1, 5, 5);
        dueAbout(m, 0, 6, 5, 0, 1 + 4 + 2 + 4 + 3 + 4 + 5 + 4, 0);
        m.rock(4, 0, 0, 6);
        dueAbout(m, 0, 6, 6, 0, 27 + 6, 0);
        m.clear(4, 5);
        dueAbout(m, 0, 6, 5, 0, 32, 0);
    }

    private static void aboutCarps() {
        MoonGate m = new MoonGate();
        m.gate(0, 0, 1);
        m.dig(1, 0);
        m.dig(2, 0);
        m.dig(2, 1);
        m.carp(1, 0);
        m.carp(1, 0);
        m.carp(2, 0);
        m.carp(2, 1);
        m.pass(3);
        CHECK.due("two carps of 4 in the cell", 6, m.about(0, 3));
        m.pass(1);
        CHECK.due("two carps of 5 in the cell", 7, m.about(0, 3));
        m.pass(5);
        CHECK.due("2 and 1: carps of 10 each", 9, m.about(0, 3));
        m.sell(0);
        CHECK.due("without one that is sold", 8, m.about(0, 3));
        dueAbout(m, 0, 9, 0, 2, 8, 0);
        m.pass(60);
        CHECK.due("carps of 40 each", 14, m.about(0, 3));
    }

    private static void aboutPoets() {
        MoonGate m = new MoonGate();
        m.gate(0, 0, 1);
        m.gate(0, 0, 1);
        m.invite(1);
        m.invite(1);
        m.invite(0);
        CHECK.due("poets at 0", 1, m.about(0, 4));
        CHECK.due("poets at 1", 2, m.about(1, 4));
        m.lead(0, 0);
        CHECK.due("poets at 0", 2, m.about(0, 4));
        CHECK.due("poets at 1", 1, m.about(1, 4));
    }

    private static void aboutIsRefused() {
        MoonGate m = new MoonGate();
        CHECK.outside("about without gates", m, () -> m.about(0, 0));
        m.gate(0, 0, 1);
        for (int number : NO_NUMBERS) {
            CHECK.outside("about no gate " + number, m, () -> m.about(number, 0));
        }
        int[] nothing = {-1, 5, Integer.MIN_VALUE, Integer.MAX_VALUE};
        for (int what : nothing) {
            CHECK.outside("about no " + what, m, () -> m.about(0, what));
        }
    }

    private static void inviteIsRefused() {
        MoonGate m = new MoonGate();
        CHECK.outside("invite without gates", m, () -> m.invite(0));
        m.gate(0, 0, 1);
        for (int poet = 0; poet < 5; poet++) {
            for (int number : NO_NUMBERS) {
                CHECK.outside("invite to no gate " + number, m, () -> m.invite(number));
            }
            CHECK.due("invite", poet, m.invite(0));
            CHECK.due("lines of a new poet", 0, m.lines(poet));
        }
        CHECK.untimely("the 6th poet", m, () -> m.invite(0));
        CHECK.outside("the 6th poet, to no gate", m, () -> m.invite(1));
        CHECK.due("poets", 5, m.count(9));
        CHECK.due("coins", 100, m.count(2));
    }

    private static void leadFromGateToGate() {
        MoonGate m = new MoonGate();
        m.gate(0, 0, 1);
        m.gate(0, 1, 1);
        m.gate(0, 2, 1);
        m.rock(1, 2, 0, 6);
        m.invite(0);
        m.invite(1);
        CHECK.due("lead(0, 2)", 0, m.lead(0, 2));
        CHECK.due("lead(0, 2) again", 2, m.lead(0, 2));
        CHECK.due("lead(1, 0)", 1, m.lead(1, 0));
        CHECK.due("lead(1, 1)", 0, m.lead(1, 1));
        m.pass(1);
        CHECK.due("lines by what is seen now", 2, m.lines(0));
        CHECK.due("lines of the other", 0, m.lines(1));
        m.lead(0, 1);
        m.pass(1);
        CHECK.due("lines stay", 2, m.lines(0));
    }

    private static void leadIsRefused() {
        MoonGate m = new MoonGate();
        CHECK.outside("lead without poets", m, () -> m.lead(0, 0));
        m.gate(0, 0, 1);
        CHECK.outside("lead without poets", m, () -> m.lead(0, 0));
        m.invite(0);
        for (int number : NO_NUMBERS) {
            CHECK.outside("lead of no poet " + number, m, () -> m.lead(number, 0));
            CHECK.outside("lead to no gate " + number, m, () -> m.lead(0, number));
        }
    }

    private static void linesAreWritten() {
        MoonGate m = new MoonGate();
        m.gate(0, 0, 1);
        m.gate(0, 1, 1);
        m.rock(3, 0, 2, 6);
        m.invite(0);
        m.invite(1);
        m.pass(3);
        m.invite(0);
        m.pass(1);
        CHECK.due("lines(0)", 8, m.lines(0));
        CHECK.due("lines(1)", 0, m.lines(1));
        CHECK.due("lines(2)", 2, m.lines(2));
        CHECK.due("all lines", 10, m.count(10));
    }

    private static void linesAreRefused() {
        MoonGate m = new MoonGate();
        CHECK.outside("lines without poets", m, () -> m.lines(0));
        m.gate(0, 0, 1);
        m.invite(0);
        for (int number : NO_NUMBERS) {
            CHECK.outside("lines of no poet " + number, m, () -> m.lines(number));
        }
    }

    private static void countTells() {
        MoonGate m = new MoonGate();
        m.rock(2, 0, 0, 6);
        m.rock(2, 1, 0, 1);
        m.dig(4, 4);
        m.dig(5, 4);
        m.dig(7, 4);
        m.wall(0, 5);
        m.carp(4, 4);
        m.carp(7, 4);
        m.gate(0, 0, 1);
        m.gate(0, 1, 1);
        m.gate(0, 2, 1);
        m.invite(0);
        m.invite(1);
        m.pass(4);
        m.sell(1);
        int[] want = {4, 1, 100 - 14 - 18 - 3 - 8 + 3, 2, 3, 2, 1, 5, 3, 2, 4 * 2 + 4};
        for (int what = 0; what <= 10; what++) {
            CHECK.due("count(" + what + ")", want[what], m.count(what));
        }
        for (int day = 4; day < 30; day++) {
            CHECK.due("day", day, m.count(0));
            CHECK.due("full moon on the day " + day, day % 8 == 4 ? 1 : 0, m.count(1));
            m.pass(1);
        }
    }

    private static void countIsRefused() {
        MoonGate m = new MoonGate();
        int[] nothing = {-1, 11, 12, Integer.MIN_VALUE, Integer.MAX_VALUE};
        for (int what : nothing) {
            CHECK.outside("count no " + what, m, () -> m.count(what));
        }
    }
}
