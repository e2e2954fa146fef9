import java.math.BigInteger;

/** Promise 21: digest. */
public final class Promise21DigestTest {
    private static final Check CHECK = new Check("Promise 21, digest");

    public static void main(String[] args) {
        CHECK.test("of a garden with nothing in it", Promise21DigestTest::ofNothing);
        CHECK.test("what all calls tell, in their order", Promise21DigestTest::ofEach);
        CHECK.test("it wraps around as a 64-bit integer, to both signs", Promise21DigestTest::wrapsAround);
        CHECK.test("carps that are sold belong to it", Promise21DigestTest::soldCarps);
        CHECK.test("each change of a number changes it", Promise21DigestTest::changes);
        CHECK.test("nothing is changed", Promise21DigestTest::changesNothing);
        CHECK.end();
    }

    /** The checksum without wrapping, which is cut to 64 bits at the end. */
    private static final class Sum {
        private BigInteger d = BigInteger.valueOf(1193);

        void add(long x) {
            d = d.multiply(BigInteger.valueOf(31)).add(BigInteger.valueOf(x));
        }

        long cut() {
            return d.longValue();
        }
    }

    private static Sum sum(MoonGate m) {
        Sum sum = new Sum();
        for (int what = 0; what <= 10; what++) {
            sum.add(m.count(what));
        }
        for (int place = 0; place < 70; place++) {
            for (int what = 0; what <= 4; what++) {
                sum.add(m.cell(place % 10, place / 10, what));
            }
        }
        return sum;
    }

    private static void addNumbered(Sum sum, MoonGate m, int carps) {
        for (int carp = 0; carp < carps; carp++) {
            for (int what = 0; what <= 4; what++) {
                sum.add(m.told(carp, what));
            }
        }
        for (int gate = 0; gate < m.count(8); gate++) {
            for (int what = 0; what <= 4; what++) {
                sum.add(m.about(gate, what));
            }
        }
        for (int poet = 0; poet < m.count(9); poet++) {
            sum.add(m.lines(poet));
        }
    }

    /** Three gardens alike, so that none is asked more than 512 times. */
    private static void dueDigest(String name, Check.Maker maker) {
        int carps = Gardens.carpsThatCame(maker.make());
        Sum sum = sum(maker.make());
        addNumbered(sum, maker.make(), carps);
        CHECK.due("digest() of " + name, sum.cut(), maker.make().digest());
    }

    private static void ofNothing() {
        CHECK.due("digest()", -5384565204170441541L, new MoonGate().digest());
        dueDigest("a new object", MoonGate::new);
    }

    private static void ofEach() {
        dueDigest("a poor garden", Gardens::poor);
        dueDigest("a busy garden", Gardens::busy);
        dueDigest("a full garden", Gardens::most);
        dueDigest("a busy garden later", () -> {
            MoonGate m = Gardens.busy();
            m.sell(1);
            m.lead(3, 2);
            m.wall(9, 6);
            m.pass(29);
            return m;
        });
    }

    private static void wrapsAround() {
        MoonGate m = new MoonGate();
        int below = 0;
        for (int day = 0; day < 100; day++) {
            Sum sum = new Sum();
            int[] counts = {day, day % 8 == 4 ? 1 : 0, 100, 0, 0, 0, 0, 0, 0, 0, 0};
            for (int count : counts) {
                sum.add(count);
            }
            for (int place = 0; place < 70; place++) {
                sum.add(0);
                sum.add(-1);
                sum.add(0);
                sum.add(0);
                sum.add(0);
            }
            long digest = m.digest();
            below += digest < 0 ? 1 : 0;
            CHECK.due("digest() on the day " + day, sum.cut(), digest);
            m.pass(1);
        }
        CHECK.due("some are below 0, some above", 1, below > 10 && below < 90 ? 1 : 0);
    }

    private static void soldCarps() {
        dueDigest("a pond whose carps are sold", () -> {
            MoonGate m = new MoonGate();
            m.dig(3, 3);
            m.carp(3, 3);
            m.carp(3, 3);
            m.pass(7);
            m.sell(0);
            m.sell(1);
            return m;
        });
    }

    private static void changes() {
        MoonGate m = Gardens.busy();
        long before = m.digest();
        Check.Call[] changes = {g -> g.rock(0, 3, 5, 1), g -> g.clear(0, 3), g -> g.dig(0, 3), g -> g.carp(0, 3),
            g -> g.pass(1), g -> g.sell(6), g -> g.wall(1, 3), g -> g.gate(8, 6, 3), g -> g.invite(3),
            g -> g.lead(0, 3)};
        for (int i = 0; i < changes.length; i++) {
            changes[i].on(m);
            long after = m.digest();
            CHECK.due("the change " + i + " is seen", 1, after != before ? 1 : 0);
            CHECK.due("digest() again", after, m.digest());
            before = after;
        }
    }

    private static void changesNothing() {
        for (Check.Maker maker : Gardens.EACH) {
            CHECK.changesNothing("digest()", maker, MoonGate::digest);
        }
    }
}
