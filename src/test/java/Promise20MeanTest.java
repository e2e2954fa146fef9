/** Promise 20: mean. */
public final class Promise20MeanTest {
    private static final Check CHECK = new Check("Promise 20, mean");

    public static void main(String[] args) {
        CHECK.test("0 if there are none", Promise20MeanTest::none);
        CHECK.test("0 if none has beauty", Promise20MeanTest::noBeauty);
        CHECK.test("the beauty of one alone", Promise20MeanTest::oneAlone);
        CHECK.test("it is not cut, and not rounded", Promise20MeanTest::notCut);
        CHECK.test("of 1 to 6 gates", Promise20MeanTest::ofSix);
        CHECK.test("gates at one cell all count", Promise20MeanTest::sameCell);
        CHECK.test("nothing is changed", Promise20MeanTest::changesNothing);
        CHECK.end();
    }

    private static void none() {
        CHECK.dueDouble("mean() of a new object", 0.0, new MoonGate().mean());
        CHECK.dueDouble("mean() without gates", 0.0, Gardens.poor().mean());
    }

    private static void noBeauty() {
        MoonGate m = new MoonGate();
        for (int gate = 0; gate < 6; gate++) {
            m.gate(0, gate, 1);
            CHECK.dueDouble("mean()", 0.0, m.mean());
        }
    }

    private static void oneAlone() {
        MoonGate m = new MoonGate();
        m.gate(0, 0, 1);
        m.rock(5, 0, 0, 3);
        CHECK.dueDouble("mean()", 7.0, m.mean());
        m.dig(6, 0);
        CHECK.dueDouble("mean()", 10.0, m.mean());
    }

    private static void notCut() {
        MoonGate m = new MoonGate();
        m.gate(0, 0, 1);
        m.rock(5, 0, 0, 3);
        m.gate(0, 1, 1);
        CHECK.dueDouble("mean() of 7, 0", 3.5, m.mean());
        m.dig(1, 1);
        m.gate(0, 2, 1);
        CHECK.dueDouble("mean() of 7, 3, 0", 10.0 / 3.0, m.mean());
    }

    private static void ofSix() {
        MoonGate m = new MoonGate();
        m.rock(5, 0, 0, 1);
        double[] want = {5.0, 2.5, 5.0 / 3.0, 1.25, 1.0, 5.0 / 6.0};
        for (int gate = 0; gate < 6; gate++) {
            m.gate(0, gate, 1);
            CHECK.dueDouble("mean() of " + (gate + 1), want[gate], m.mean());
        }
        m.rock(5, 5, 0, 2);
        CHECK.dueDouble("mean() with the last", 11.0 / 6.0, m.mean());
    }

    private static void sameCell() {
        MoonGate m = new MoonGate();
        m.rock(5, 0, 0, 1);
        m.gate(0, 0, 1);
        m.gate(0, 0, 1);
        m.gate(0, 0, 2);
        CHECK.dueDouble("mean() of 5, 5, 0", 10.0 / 3.0, m.mean());
    }

    private static void changesNothing() {
        for (Check.Maker maker : Gardens.EACH) {
            CHECK.changesNothing("mean()", maker, MoonGate::mean);
        }
    }
}
