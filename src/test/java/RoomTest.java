import com.sun.management.ThreadMXBean;
import java.lang.management.ManagementFactory;

/**
 * All calls of one run live in one room of some 600,000 objects: a den takes little of it, and no call
 * makes an object, but for the exception that it throws.
 */
public final class RoomTest {
    // What Java itself makes now and then, as it measures and compiles.
    private static final long NOISE = 4096;

    // A den is used for 512 calls at most: making it full takes some 120, and each time six at most.
    private static final int TIMES = 60;
    private static final int ROUNDS = 40;

    private static final ThreadMXBean THREADS = (ThreadMXBean) ManagementFactory.getThreadMXBean();

    private RoomTest() {
    }

    private interface Calls {
        long make(MailDen den, int k);
    }

    public static void main(String[] args) {
        aDen();
        theDearestCalls();
        allThatGoesOn();
        Due.end();
    }

    private static long made() {
        return THREADS.getThreadAllocatedBytes(Thread.currentThread().getId());
    }

    /** A call that is made some thousand times makes nothing; what it makes the first times is Java's own. */
    private static void none(String what, Calls calls) {
        long sum = 0;
        long bytes = 0;
        for (int round = 0; round < ROUNDS; round++) {
            MailDen den = full();
            long before = made();
            for (int k = 0; k < TIMES; k++) {
                sum += calls.make(den, k);
            }
            bytes += round < ROUNDS / 4 ? 0 : made() - before;
        }
        Due.same(what + " makes no object, but " + bytes + " bytes (" + sum + ")", true, bytes <= NOISE);
    }

    private static void aDen() {
        new MailDen();
        long before = made();
        MailDen den = new MailDen();
        long bytes = made() - before;
        Due.same("a den takes " + bytes + " bytes", true, bytes < 200_000 && den.many(0) == 0);
    }

    /** A den with 24 PROCESSES that are linked, watch each other and have full BOXES, with 4 MODULES. */
    private static MailDen full() {
        MailDen den = new MailDen();
        int m = Dens.written(den, "TRAP 1, TAKE 0, LINK, WATCH, TAKE 1, TAKE 1, NEXT");
        int sleeper = Dens.written(den, "SLEEP 1, NEXT");
        den.module();
        den.module();
        Dens.spec(den, 0, 3, 9, Dens.ofModule(sleeper, 0), Dens.ofModule(sleeper, 0));
        Dens.spec(den, 1, 3, 9, Dens.ofSpec(0, 0), Dens.ofModule(sleeper, 0));
        den.supervise(1);
        Dens.fill(den, m, 23);
        den.run(50);
        for (int k = 5; k < 23; k++) {
            den.send(k, 0, (k + 1) % 23);
            den.run(1);
            den.send(k, 0, k);
        }
        return den;
    }

    private static void theDearestCalls() {
        none("digest", (den, k) -> den.digest());
        none("overBy", (den, k) -> den.overBy(20, 50));
        none("wouldFall", (den, k) -> den.wouldFall(k % 23, 9));
        none("wouldPurge", (den, k) -> den.wouldPurge(k % 4));
        none("what one asks", (den, k) -> den.ofProcess(k % 23, k % 13) + den.many(k % 13) + den.ofModule(k % 4, k % 5)
            + den.ofSupervisor(k % 23, k % 7) + den.named(k % 4) + (long) den.meanLines());
    }

    private static void allThatGoesOn() {
        none("tick and run", (den, k) -> den.tick(1) + den.run(50));
        none("send", (den, k) -> den.send(k % 23, k & 1, k) ? 1 : 0);
        none("signal", (den, k) -> k < 20 ? den.signal(k, 9) : den.signal(k % 23, 3));
    }
}
