/** Promise 19: finest. */
public final class Promise19FinestTest {
    private static final Check CHECK = new Check("Promise 19, finest");

    public static void main(String[] args) {
        CHECK.test("-1 if there is none", Promise19FinestTest::none);
        CHECK.test("one alone, without beauty too", Promise19FinestTest::oneAlone);
        CHECK.test("of several the one with the smallest number", Promise19FinestTest::ofSeveral);
        CHECK.test("each of 6 can be the finest, by 1", Promise19FinestTest::eachOfSix);
        CHECK.test("it is told as the garden is now", Promise19FinestTest::now);
        CHECK.test("nothing is changed", Promise19FinestTest::changesNothing);
        CHECK.end();
    }

    private static MoonGate sixRows() {
        MoonGate m = new MoonGate();
        for (int gate = 0; gate < 6; gate++) {
            m.gate(0, gate, 1);
        }
        return m;
    }

    private static void none() {
        CHECK.due("finest() of a new object", -1, new MoonGate().finest());
        CHECK.due("finest() without gates", -1, Gardens.poor().finest());
    }

    private static void oneAlone() {
        MoonGate m = new MoonGate();
        m.gate(0, 0, 1);
        CHECK.due("finest() without beauty", 0, m.finest());
        m.rock(1, 0, 0, 1);
        CHECK.due("finest()", 0, m.finest());
    }

    private static void ofSeveral() {
        MoonGate m = sixRows();
        CHECK.due("finest() of 6 without beauty", 0, m.finest());
        m.rock(5, 5, 0, 2);
        CHECK.due("finest() is the last", 5, m.finest());
        m.rock(5, 3, 0, 2);
        CHECK.due("finest() of 3 and 5, which are equal", 3, m.finest());
        m.rock(5, 0, 0, 2);
        CHECK.due("finest() of 0, 3 and 5, which are equal", 0, m.finest());
    }

    private static void eachOfSix() {
        for (int finest = 0; finest < 6; finest++) {
            MoonGate m = sixRows();
            for (int gate = 0; gate < 6; gate++) {
                m.rock(5, gate, gate, gate == finest ? 3 : 2);
            }
            CHECK.due("finest()", finest, m.finest());
        }
    }

    private static void now() {
        MoonGate m = sixRows();
        m.dig(1, 0);
        m.carp(1, 0);
        m.rock(1, 1, 0, 1);
        CHECK.due("finest(): 3 and 5", 1, m.finest());
        m.pass(28);
        CHECK.due("finest(): 5 and 5, with a carp of 29", 0, m.finest());
        m.sell(0);
        CHECK.due("finest(): 3 and 5", 1, m.finest());
        m.wall(2, 1);
        m.clear(1, 1);
        CHECK.due("finest(): 3 and 0", 0, m.finest());
    }

    private static void changesNothing() {
        for (Check.Maker maker : Gardens.EACH) {
            CHECK.changesNothing("finest()", maker, MoonGate::finest);
        }
    }
}
