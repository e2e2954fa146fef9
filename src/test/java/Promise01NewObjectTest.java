/** Promise 1: a new object. */
public final class Promise01NewObjectTest {
    private static final Check CHECK = new Check("Promise 1, a new object");

    public static void main(String[] args) {
        CHECK.test("the garden is bare, each of its 70 cells", Promise01NewObjectTest::everyCellIsBare);
        CHECK.test("there are 100 coins", Promise01NewObjectTest::hundredCoins);
        CHECK.test("100 coins can be spent, and none more", Promise01NewObjectTest::hundredCoinsToSpend);
        CHECK.test("it is the day 0, and the moon is not full", Promise01NewObjectTest::dayZero);
        CHECK.test("nothing else is in it", Promise01NewObjectTest::nothingElse);
        CHECK.test("there is nothing that has a number", Promise01NewObjectTest::noNumbers);
        CHECK.test("what would be is as nothing is", Promise01NewObjectTest::nothingWouldBe);
        CHECK.test("what one garden holds is not in another", Promise01NewObjectTest::gardensAreApart);
        CHECK.end();
    }

    private static void everyCellIsBare() {
        MoonGate m = new MoonGate();
        for (int place = 0; place < 70; place++) {
            CHECK.dueCell(m, place % 10, place / 10, 0, -1, 0, 0, 0);
        }
    }

    private static void hundredCoins() {
        CHECK.due("count(2)", 100, new MoonGate().count(2));
    }

    private static void hundredCoinsToSpend() {
        MoonGate m = new MoonGate();
        for (int x = 0; x < 5; x++) {
            CHECK.due("rock for 18", 100 - 18 * (x + 1), m.rock(x, 0, x, 9));
        }
        CHECK.due("rock for 10", 0, m.rock(5, 0, 5, 5));
        CHECK.refused(Check.UNTIMELY, "rock for 2 of 0 coins", () -> Gardens.withCoins(0), g -> g.rock(0, 0, 0, 1));
    }

    private static void dayZero() {
        MoonGate m = new MoonGate();
        CHECK.due("count(0)", 0, m.count(0));
        CHECK.due("count(1)", 0, m.count(1));
    }

    private static void nothingElse() {
        MoonGate m = new MoonGate();
        for (int what = 3; what <= 10; what++) {
            CHECK.due("count(" + what + ")", 0, m.count(what));
        }
    }

    private static void noNumbers() {
        CHECK.refused(Check.OUTSIDE, "sell(0)", MoonGate::new, m -> m.sell(0));
        CHECK.refused(Check.OUTSIDE, "told(0, 0)", MoonGate::new, m -> m.told(0, 0));
        CHECK.refused(Check.OUTSIDE, "about(0, 0)", MoonGate::new, m -> m.about(0, 0));
        CHECK.refused(Check.OUTSIDE, "invite(0)", MoonGate::new, m -> m.invite(0));
        CHECK.refused(Check.OUTSIDE, "lead(0, 0)", MoonGate::new, m -> m.lead(0, 0));
        CHECK.refused(Check.OUTSIDE, "lines(0)", MoonGate::new, m -> m.lines(0));
        CHECK.refused(Check.OUTSIDE, "advise(0, 0, 1)", MoonGate::new, m -> m.advise(0, 0, 1));
    }

    private static void nothingWouldBe() {
        MoonGate m = new MoonGate();
        CHECK.due("foresee(60, 2)", 100, m.foresee(60, 2));
        CHECK.due("foresee(60, 7)", 0, m.foresee(60, 7));
        CHECK.due("foresee(60, 10)", 0, m.foresee(60, 10));
        CHECK.due("finest()", -1, m.finest());
        CHECK.dueDouble("mean()", 0.0, m.mean());
        CHECK.due("digest()", -5384565204170441541L, m.digest());
        CHECK.due("pass(60)", 0, m.pass(60));
    }

    private static void gardensAreApart() {
        MoonGate first = new MoonGate();
        Gardens.most();
        CHECK.due("digest() of the first", -5384565204170441541L, first.digest());
        CHECK.due("digest() of a later one", -5384565204170441541L, new MoonGate().digest());
    }
}
