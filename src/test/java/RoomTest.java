import com.sun.management.ThreadMXBean;
import java.lang.management.ManagementFactory;

/** The room of a run: some 600,000 objects, and 7.3 million fields and elements in all. */
public final class RoomTest {
    /** An eighth of the room, with 8 bytes a field or element; one object and its calls are to stay far below. */
    private static final long BYTES = 7_300_000;

    public static void main(String[] args) {
        Check check = new Check("The room");
        check.test("an object and its dearest calls stay far below the room", () -> measure(check));
        check.end();
    }

    private static void measure(Check check) {
        ThreadMXBean threads = (ThreadMXBean) ManagementFactory.getThreadMXBean();
        use(new MoonGate());
        long start = threads.getCurrentThreadAllocatedBytes();
        MoonGate garden = new MoonGate();
        long made = threads.getCurrentThreadAllocatedBytes();
        use(garden);
        long used = threads.getCurrentThreadAllocatedBytes();
        check.dueObject("few bytes for an object: " + (made - start), true, made - start < BYTES / 100);
        check.dueObject("few bytes for its calls: " + (used - made), true, used - made < BYTES);
    }

    private static void use(MoonGate garden) {
        for (int x = 1; x < 7; x++) {
            garden.dig(x, 0);
        }
        for (int carp = 0; carp < 12; carp++) {
            garden.carp(1 + carp % 6, 0);
        }
        for (int gate = 0; gate < 6; gate++) {
            garden.gate(0, 0, 1);
        }
        for (int poet = 0; poet < 5; poet++) {
            garden.invite(poet);
        }
        for (int call = 0; call < 90; call++) {
            garden.pass(60);
            garden.foresee(60, 10);
            garden.advise(0, 1, 9);
            garden.digest();
            garden.mean();
        }
    }
}
