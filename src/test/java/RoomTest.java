import com.sun.management.ThreadMXBean;
import java.lang.management.ManagementFactory;

/** All calls of a run live in one room: a court is small, and its calls make nothing. */
public final class RoomTest {
    private static final ThreadMXBean BEAN = (ThreadMXBean) ManagementFactory.getThreadMXBean();

    private RoomTest() {
    }

    public static void main(String[] args) {
        RuleCourt court = Checks.court("e(a,b). e(b,c). e(c,d). e(d,b). p(A,B): e(A,B). "
            + "p(A,B): e(A,C), p(C,B). n(A): e(A,B). f(A,B): n(A), n(B), not p(A,B), A # B.");
        // The first round loads classes.
        useAll(court);
        long before = allocated();
        for (int i = 0; i < 20; i++) {
            useAll(court);
        }
        // Reading the measure itself may take a few bytes.
        Checks.due("bytes made by calls", (allocated() - before) / 1024, 0);
        before = allocated();
        RuleCourt another = new RuleCourt();
        Checks.due("a court has no more than 64 KiB", (allocated() - before) / 65536, 0);
        Checks.due("a court", another.count(0), 0);
        Checks.end("RoomTest");
    }

    private static long allocated() {
        return BEAN.getThreadAllocatedBytes(Thread.currentThread().getId());
    }

    private static void useAll(RuleCourt court) {
        // "p(a,d)." is refused or told, "q" is a FAULT.
        court.feed(0x7028612c, 0x64292e20, 0x20202020, 0x20202020, 0x20202071);
        court.tell(20);
        court.feed(0x7028612c, 0x64292e20, 0x20202020, 0x20202020, 0x20202020);
        court.tell(20);
        court.feed(0x65286129, 0x64292e20, 0x20202020, 0x20202020, 0x20202020);
        court.tell(20);
        for (int atom = -1; atom < 500; atom++) {
            court.fact(atom, false);
            court.fact(1, true);
            court.fact(12, true);
            court.fact(23, true);
            court.follows(atom);
            court.steps(atom);
            court.why(atom);
            court.because(0);
            court.comes(atom % 5, atom);
            court.go(atom);
            court.gone(0);
            court.turned(atom, true);
            court.many(atom / 100);
            court.one(atom / 100, 1);
            court.rule(atom % 7, atom % 6);
            court.term(atom % 7, 1, atom % 5);
            court.count(atom % 7);
            court.atom(atom / 100, 1, 2);
            court.places(atom);
            court.layer(atom);
        }
        court.name(0, 0, true);
        court.derived();
        court.deepest();
        court.trouble();
        court.fault();
        court.where();
        // "f(A,B): n(A), n(B)." comes behind the others and goes again.
        court.feed(0x6628412c, 0x42293a6e, 0x2841292c, 0x6e284229, 0x2e202020);
        court.tell(20);
        court.drop(court.count(2) - 1);
    }
}
