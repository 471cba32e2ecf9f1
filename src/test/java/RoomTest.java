import com.sun.management.ThreadMXBean;
import java.lang.management.ManagementFactory;
import java.util.function.Consumer;

/**
 * The room that a run of calls takes up: of all its calls together, as many as an object is used for,
 * the dearest ones, and with the object itself. What a thrown exception takes is not of the class.
 */
public final class RoomTest {
    private static final int CALLS = 512;
    /** Far less than the 7.3 million fields and elements that a run may have. */
    private static final long MOST_BYTES = 1 << 16;

    private static final Check check = new Check();
    private static final ThreadMXBean room =
            (ThreadMXBean) ManagementFactory.getThreadMXBean();

    private RoomTest() {}

    public static void main(String[] args) {
        takesLittle("the object alone", x -> {});
        takesLittle("what is told", x -> tell(x, 6));
        for (int d = 0; d < 4; d++) {
            int diagram = d;
            takesLittle("9: allocation", repeated(6, x -> x.allocation(diagram)));
            takesLittle("10: allocationAnew", repeated(4, x -> x.allocationAnew(diagram)));
        }
        takesLittle("11: lack", repeated(6, Stablingroad::lack));
        takesLittle("8: whyNot", repeated(6, x -> x.whyNot(0, 0)));
        takesLittle("24: kmAnew", repeated(6, x -> x.kmAnew(0)));
        takesLittle("17: about", repeated(6, x -> x.about(0, 5)));
        takesLittle("6: faults told and mended", repeated(6, x -> {
            x.fault(1, Stablingroad.TOILET, 0, 0);
            x.mend(1, 0);
        }));
        takesLittle("12: 200 days", RoomTest::allDays);
        check.end("RoomTest");
    }

    private static Consumer<Stablingroad> repeated(int diagrams, Consumer<Stablingroad> call) {
        return x -> {
            tell(x, diagrams);
            for (int i = 0; i < CALLS; i++) {
                call.accept(x);
            }
        };
    }

    private static void allDays(Stablingroad x) {
        tell(x, 6);
        for (int day = 0; day < 200; day++) {
            x.day();
            x.lathe(day % 6);
        }
    }

    /** Six units that may run each of the diagrams. */
    private static void tell(Stablingroad x, int diagrams) {
        Depots.examsFarAway(x);
        for (int u = 0; u < 6; u++) {
            x.unit(0, 0);
        }
        for (int d = 0; d < diagrams; d++) {
            x.diagram(0, 0, 1, 0, 1);
        }
    }

    private static void takesLittle(String what, Consumer<Stablingroad> calls) {
        // Once before, so that what the machine makes when it first meets the calls is not counted.
        calls.accept(new Stablingroad());
        long before = room.getCurrentThreadAllocatedBytes();
        calls.accept(new Stablingroad());
        long taken = room.getCurrentThreadAllocatedBytes() - before;
        check.holds(what + " took " + taken + " bytes", taken <= MOST_BYTES);
    }
}
