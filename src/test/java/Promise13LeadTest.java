/** Promise 13: lead. */
public final class Promise13LeadTest {
    private static final Check CHECK = new Check("Promise 13, lead");

    public static void main(String[] args) {
        CHECK.test("the gate before is returned", Promise13LeadTest::gateBefore);
        CHECK.test("to the gate where the poet is", Promise13LeadTest::sameGate);
        CHECK.test("the poet writes by what is seen there", Promise13LeadTest::writesThere);
        CHECK.test("each of 5 poets to each of 6 gates", Promise13LeadTest::eachToEach);
        CHECK.test("there is no such poet", Promise13LeadTest::noSuchPoet);
        CHECK.test("there is no such gate", Promise13LeadTest::noSuchGate);
        CHECK.test("there is neither poet nor gate", Promise13LeadTest::neither);
        CHECK.end();
    }

    private static MoonGate most() {
        MoonGate m = new MoonGate();
        for (int gate = 0; gate < 6; gate++) {
            m.gate(0, gate, 1);
        }
        for (int poet = 0; poet < 5; poet++) {
            m.invite(poet);
        }
        return m;
    }

    private static void gateBefore() {
        MoonGate m = most();
        CHECK.due("lead(0, 2)", 0, m.lead(0, 2));
        CHECK.due("lead(0, 5)", 2, m.lead(0, 5));
        CHECK.due("lead(4, 0)", 4, m.lead(4, 0));
        CHECK.due("lead(0, 0)", 5, m.lead(0, 0));
        CHECK.due("poets at 0", 2, m.about(0, 4));
        CHECK.due("poets at 4", 0, m.about(4, 4));
        CHECK.due("poets at 5", 0, m.about(5, 4));
    }

    private static void sameGate() {
        MoonGate m = most();
        CHECK.due("lead(3, 3)", 3, m.lead(3, 3));
        CHECK.due("lead(3, 3) again", 3, m.lead(3, 3));
        CHECK.due("poets at 3", 1, m.about(3, 4));
    }

    private static void writesThere() {
        MoonGate m = Gardens.writing(3, 1, 0);
        CHECK.due("lines of a day", 4, m.pass(1));
        m.lead(0, 2);
        m.lead(1, 0);
        CHECK.due("lines of a day", 3, m.pass(1));
        CHECK.due("lines(0)", 3, m.lines(0));
        CHECK.due("lines(1)", 1 + 3, m.lines(1));
        CHECK.due("lines(2)", 0, m.lines(2));
    }

    private static void eachToEach() {
        MoonGate m = most();
        for (int poet = 0; poet < 5; poet++) {
            int before = poet;
            for (int gate = 0; gate < 6; gate++) {
                CHECK.due("lead(" + poet + ", " + gate + ")", before, m.lead(poet, gate));
                before = gate;
            }
        }
        CHECK.due("poets at 5", 5, m.about(5, 4));
    }

    private static void noSuchPoet() {
        CHECK.refusedBeyond(Check.OUTSIDE, "lead(poet, 0)", 0, m -> m.count(9) - 1, (m, poet) -> m.lead(poet, 0));
        CHECK.refused(Check.OUTSIDE, "lead without poets", () -> {
            MoonGate m = new MoonGate();
            m.gate(0, 0, 1);
            return m;
        }, m -> m.lead(0, 0));
    }

    private static void noSuchGate() {
        CHECK.refusedBeyond(Check.OUTSIDE, "lead(0, gate)", 0, m -> m.count(8) - 1, (m, gate) -> m.lead(0, gate));
        CHECK.refusedBeyond(Check.OUTSIDE, "lead(3, gate)", 0, m -> m.count(8) - 1, (m, gate) -> m.lead(3, gate));
    }

    private static void neither() {
        for (int number = -1; number <= 6; number++) {
            int none = number;
            CHECK.refused(Check.OUTSIDE, "lead of " + none, MoonGate::new, m -> m.lead(none, none));
        }
        CHECK.refused(Check.OUTSIDE, "lead(5, 6)", Promise13LeadTest::most, m -> m.lead(5, 6));
        CHECK.refused(Check.OUTSIDE, "lead(-1, -1)", Promise13LeadTest::most, m -> m.lead(-1, -1));
    }
}
