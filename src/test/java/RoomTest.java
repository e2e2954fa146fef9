import com.sun.management.ThreadMXBean;
import java.lang.management.ManagementFactory;

/** The room: an object stays small, and its calls make nothing that is kept or thrown away. */
public final class RoomTest {
    private static final long BYTES_OF_AN_OBJECT = 8192;
    private static final long BYTES_OF_ALL_CALLS = 8192;

    public static void main(String[] args) {
        Check check = new Check("The room");
        check.test("an object stays small, and its calls make nothing", () -> measure(check));
        check.end();
    }

    private static void measure(Check check) {
        ThreadMXBean threads = (ThreadMXBean) ManagementFactory.getThreadMXBean();
        use(new MoonGate());
        long start = threads.getCurrentThreadAllocatedBytes();
        MoonGate garden = new MoonGate();
        long made = threads.getCurrentThreadAllocatedBytes();
        use(garden);
        long used = threads.getCurrentThreadAllocatedBytes();
        check.due("bytes of an object: " + (made - start), 1, made - start < BYTES_OF_AN_OBJECT ? 1 : 0);
        check.due("bytes of its calls: " + (used - made), 1, used - made < BYTES_OF_ALL_CALLS ? 1 : 0);
    }

    private static void use(MoonGate garden) {
        for (int x = 1; x < 7; x++) {
            garden.dig(x, 0);
        }
        for (int carp = 0; carp < 12; carp++) {
            garden.carp(1 + carp % 6, 0);
        }
        for (int gate = 0; gate < 6; gate++) {
            garden.gate(0, 0, 1);
        }
        for (int poet = 0; poet < 5; poet++) {
            garden.invite(poet);
        }
        for (int call = 0; call < 90; call++) {
            garden.pass(60);
            garden.foresee(60, 10);
            garden.advise(0, 1, 9);
            garden.digest();
            garden.mean();
        }
    }
}
