/** Promise 14: lines. */
public final class Promise14LinesTest {
    private static final Check CHECK = new Check("Promise 14, lines");

    public static void main(String[] args) {
        CHECK.test("0 at first", Promise14LinesTest::zeroAtFirst);
        CHECK.test("what this one wrote in all", Promise14LinesTest::inAll);
        CHECK.test("what was written stays, whatever the poet sees later", Promise14LinesTest::stays);
        CHECK.test("each of 5 poets has lines of its own", Promise14LinesTest::eachItsOwn);
        CHECK.test("there is no such poet", Promise14LinesTest::noSuchPoet);
        CHECK.test("there is no poet at all", Promise14LinesTest::noPoetAtAll);
        CHECK.test("nothing is changed", Promise14LinesTest::changesNothing);
        CHECK.end();
    }

    private static void zeroAtFirst() {
        MoonGate m = Gardens.writing(2);
        CHECK.due("lines(0)", 0, m.lines(0));
        m.pass(3);
        m.invite(0);
        CHECK.due("lines(1) of one who came later", 0, m.lines(1));
        CHECK.due("lines(0)", 6, m.lines(0));
    }

    private static void inAll() {
        MoonGate m = Gardens.writing(3);
        int[] want = {3, 6, 9, 12, 18, 21, 24, 27, 30};
        for (int all : want) {
            m.pass(1);
            CHECK.due("lines(0)", all, m.lines(0));
        }
    }

    private static void stays() {
        MoonGate m = Gardens.writing(3, 0);
        m.pass(2);
        m.lead(0, 1);
        m.pass(2);
        CHECK.due("lines(0)", 6, m.lines(0));
        m.lead(0, 0);
        m.clear(1, 0);
        m.wall(1, 0);
        m.pass(60);
        CHECK.due("lines(0)", 6, m.lines(0));
    }

    private static void eachItsOwn() {
        MoonGate m = Gardens.writing(5, 0, 1, 4, 2);
        m.pass(1);
        int[] want = {5, 0, 1, 4, 2};
        for (int poet = 0; poet < 5; poet++) {
            CHECK.due("lines(" + poet + ")", want[poet], m.lines(poet));
        }
        CHECK.due("lines of all", 12, m.count(10));
    }

    private static void noSuchPoet() {
        CHECK.refusedBeyond(Check.OUTSIDE, "lines", 0, m -> m.count(9) - 1, MoonGate::lines);
    }

    private static void noPoetAtAll() {
        for (int poet = -1; poet <= 5; poet++) {
            int none = poet;
            CHECK.refused(Check.OUTSIDE, "lines(" + none + ")", MoonGate::new, m -> m.lines(none));
            CHECK.refused(Check.OUTSIDE, "lines(" + none + ") with a gate", () -> {
                MoonGate m = new MoonGate();
                m.gate(0, 0, 1);
                return m;
            }, m -> m.lines(none));
        }
    }

    private static void changesNothing() {
        for (int poet = 0; poet < 4; poet++) {
            int one = poet;
            CHECK.changesNothing("lines(" + one + ")", Gardens::busy, m -> m.lines(one));
        }
    }
}
