/** Promise 12: invite. */
public final class Promise12InviteTest {
    private static final Check CHECK = new Check("Promise 12, invite");

    public static void main(String[] args) {
        CHECK.test("the number is returned, from 0 to 4", Promise12InviteTest::numbers);
        CHECK.test("the poet is at the gate, and wrote 0 lines", Promise12InviteTest::isAtTheGate);
        CHECK.test("it costs no coins", Promise12InviteTest::costsNothing);
        CHECK.test("to the first gate, to the last of 6", Promise12InviteTest::firstAndLastGate);
        CHECK.test("there is no such gate", Promise12InviteTest::noSuchGate);
        CHECK.test("there is no gate at all", Promise12InviteTest::noGateAtAll);
        CHECK.test("there are 5", Promise12InviteTest::five);
        CHECK.test("the exception that is named first is thrown", Promise12InviteTest::firstNamed);
        CHECK.end();
    }

    private static MoonGate withGates(int gates) {
        MoonGate m = new MoonGate();
        for (int gate = 0; gate < gates; gate++) {
            m.gate(0, gate, 1);
        }
        return m;
    }

    private static void numbers() {
        MoonGate m = withGates(2);
        for (int poet = 0; poet < 5; poet++) {
            CHECK.due("poets before", poet, m.count(9));
            CHECK.due("invite", poet, m.invite(poet % 2));
        }
        CHECK.due("poets", 5, m.count(9));
    }

    private static void isAtTheGate() {
        MoonGate m = withGates(3);
        m.invite(1);
        m.invite(2);
        m.invite(1);
        CHECK.due("poets at 0", 0, m.about(0, 4));
        CHECK.due("poets at 1", 2, m.about(1, 4));
        CHECK.due("poets at 2", 1, m.about(2, 4));
        for (int poet = 0; poet < 3; poet++) {
            CHECK.due("lines(" + poet + ")", 0, m.lines(poet));
        }
        CHECK.due("the gate of 0", 1, m.lead(0, 0));
        CHECK.due("the gate of 1", 2, m.lead(1, 0));
        CHECK.due("the gate of 2", 1, m.lead(2, 0));
    }

    private static void costsNothing() {
        MoonGate m = Gardens.withCoins(0);
        m.gate(0, 0, 1);
        CHECK.due("invite without coins", 0, m.invite(0));
        CHECK.due("coins", 0, m.count(2));
    }

    private static void firstAndLastGate() {
        MoonGate m = withGates(6);
        CHECK.due("invite(0)", 0, m.invite(0));
        CHECK.due("invite(5)", 1, m.invite(5));
        CHECK.due("poets at 0", 1, m.about(0, 4));
        CHECK.due("poets at 5", 1, m.about(5, 4));
    }

    private static void noSuchGate() {
        CHECK.refusedBeyond(Check.OUTSIDE, "invite", 0, m -> m.count(8) - 1, MoonGate::invite);
        for (int gates = 1; gates <= 6; gates++) {
            int many = gates;
            CHECK.refused(Check.OUTSIDE, "invite(" + many + ")", () -> withGates(many), m -> m.invite(many));
        }
    }

    private static void noGateAtAll() {
        for (int gate = -1; gate <= 6; gate++) {
            int none = gate;
            CHECK.refused(Check.OUTSIDE, "invite(" + none + ")", MoonGate::new, m -> m.invite(none));
        }
    }

    private static void five() {
        for (int gate = 0; gate < 6; gate++) {
            int one = gate;
            CHECK.refused(Check.UNTIMELY, "the 6th poet to " + one, Gardens::most, m -> m.invite(one));
        }
    }

    private static void firstNamed() {
        CHECK.eachCombination("invite", (m, a) -> m.invite(a[0]), (m, a) -> {
            if (a[0] < 0 || a[0] >= m.count(8)) {
                return Check.OUTSIDE;
            }
            return m.count(9) >= 5 ? Check.UNTIMELY : null;
        }, new int[] {Integer.MIN_VALUE, -1, 0, 1, 2, 3, 5, 6, Integer.MAX_VALUE});
    }
}
