/** Promise 8: who may run, by each reason and by which comes first. */
public final class MayRunTest {
    private static final int NONE = Stablingroad.NONE;
    private static final int FLAT = Stablingroad.FLAT;
    private static final int DOOR = Stablingroad.DOOR;
    private static final int ENGINE = Stablingroad.ENGINE;
    private static final int TOILET = Stablingroad.TOILET;

    private static final Check check = new Check();

    private MayRunTest() {}

    public static void main(String[] args) {
        placeAndKm();
        days();
        theList();
        graveFaults();
        axlesApart();
        smallAxles();
        whichComesFirst();
        check.end("MayRunTest");
    }

    private static void placeAndKm() {
        Stablingroad x = new Stablingroad();
        x.unit(0, 5000);
        x.unit(1, 0);
        x.diagram(0, 0, 1100, 0, 1);
        x.diagram(0, 0, 1101, 0, 1);
        check.same("8: up to the bound", x.whyNot(0, 0), 0);
        check.same("8: above the bound", x.whyNot(0, 1), 2);
        check.same("8: not at the depot", x.whyNot(1, 0), 1);
        x.pin(0, 1);
        check.same("8: a pin is no reason", x.whyNot(0, 0), 0);
        for (int low = 0; low < 3; low++) {
            for (int k = 0; k < 3; k++) {
                x.exam(k, k == low ? 1100 : 1101, 0, 1);
            }
            check.same("8: up to the bound of " + low, x.whyNot(0, 0), 0);
            check.same("8: above the bound of " + low, x.whyNot(0, 1), 2);
        }
        x.pin(0, 0);
        x.day();
        check.same("8: with the km that it ran", x.whyNot(0, 0), 2);
    }

    private static void days() {
        Stablingroad x = new Stablingroad();
        x.unit(0, 0);
        x.unit(0, 0);
        x.diagram(0, 0, 10, 0, 1);
        x.pin(0, 1);
        x.day();
        for (int few = 0; few < 3; few++) {
            for (int k = 0; k < 3; k++) {
                x.exam(k, 1000, 0, k == few ? 0 : 1);
            }
            check.same("8: a day too many for " + few, x.whyNot(0, 0), 2);
            x.exam(few, 1000, 0, 1);
            check.same("8: days enough for all", x.whyNot(0, 0), 0);
        }
    }

    private static void theList() {
        Stablingroad x = new Stablingroad();
        x.unit(0, 0);
        x.unit(1, 0);
        for (int line = 0; line < 3; line++) {
            x.diagram(0, 0, 1, line, 1);
            x.pin(line, 1);
        }
        x.fault(0, TOILET, 0, 0);
        check.same("8: may not run at all", x.whyNot(0, 0), 3);
        x.list(TOILET, 2, 1);
        check.same("8: below the worst line", x.whyNot(0, 0), 0);
        check.same("8: on the worst line", x.whyNot(0, 1), 0);
        check.same("8: above the worst line", x.whyNot(0, 2), 3);
        x.day();
        x.day();
        check.same("8: on its last day", x.whyNot(0, 0), 0);
        x.day();
        check.same("8: a day later", x.whyNot(0, 0), 3);
        x.list(TOILET, 3, 2);
        check.same("8: told once more", x.whyNot(0, 2), 0);
        x.list(TOILET, NONE, 2);
        check.same("8: not at all once more", x.whyNot(0, 0), 3);
        x.mend(0, 0);
        check.same("8: mended", x.whyNot(0, 0), 0);
        x.list(TOILET, 0, 2);
        x.fault(0, TOILET, 0, 0);
        check.same("8: no day, but today", x.whyNot(0, 0), 0);
        x.fault(0, DOOR, 0, 0);
        check.same("8: one of them may not run", x.whyNot(0, 0), 3);
        x.list(DOOR, 30, 2);
        check.same("8: both may", x.whyNot(0, 0), 0);
    }

    private static void graveFaults() {
        Stablingroad x = new Stablingroad();
        Depots.everyFaultMayRun(x);
        for (int u = 0; u < 6; u++) {
            x.unit(0, 0);
        }
        x.diagram(0, 0, 1, 2, 1);
        x.fault(0, FLAT, 1, 4);
        x.fault(0, FLAT, 1, 4);
        check.same("8: flats of 4", x.whyNot(0, 0), 0);
        x.fault(1, FLAT, 1, 5);
        check.same("8: a flat of 5", x.whyNot(1, 0), 4);
        x.fault(2, ENGINE, 0, 50);
        x.fault(2, ENGINE, 0, 50);
        check.same("8: engines of 50", x.whyNot(2, 0), 0);
        x.fault(3, ENGINE, 0, 51);
        check.same("8: an engine of 51", x.whyNot(3, 0), 4);
        x.fault(4, DOOR, 0, 99);
        x.fault(4, TOILET, 0, 99);
        x.fault(4, TOILET, 0, 99);
        check.same("8: a door and toilets", x.whyNot(4, 0), 0);
        x.fault(4, DOOR, 0, 1);
        check.same("8: two doors", x.whyNot(4, 0), 4);
        x.fault(5, TOILET, 0, 99);
        x.fault(5, ENGINE, 0, 51);
        check.same("8: the grave one behind another", x.whyNot(5, 0), 4);
    }

    /** A unit with its flat turned away, so that all axles are of that size. */
    private static Stablingroad turnedTo(int size) {
        return turnedTo(size, 0);
    }

    private static Stablingroad turnedTo(int size, int km) {
        Stablingroad x = new Stablingroad();
        x.unit(0, km);
        x.diagram(0, 1, 1, 0, 1);
        x.diagram(1, 0, 1, 0, 1);
        for (int left = 900 - size; left > 0; left -= 20) {
            x.fault(0, FLAT, 2, Math.min(20, left));
        }
        x.lathe(0);
        return x;
    }

    private static void smallAxles() {
        check.same("8: 800", turnedTo(800).axle(0, 3), 800);
        check.same("8: 800 is not below 800", turnedTo(800).whyNot(0, 0), 0);
        check.same("8: 799 is", turnedTo(799).whyNot(0, 0), 5);
        // From 499 to 500 km the others lose 1, and the axle 0 nothing.
        Stablingroad x = turnedTo(800, 499);
        check.same("8: all are 800", x.whyNot(0, 0), 0);
        x.day();
        check.same("8: the axle 0 is 800", x.axle(0, 0), 800);
        for (int a = 1; a < 4; a++) {
            check.same("8: this one is less", x.axle(0, a), 799);
        }
        check.same("8: another than the axle 0 is below 800", x.whyNot(0, 1), 5);
    }

    /** A unit that ran 2000 km a day, and then a last stretch. */
    private static Stablingroad worn(int days, int last) {
        Stablingroad x = new Stablingroad();
        Depots.examsFarAway(x);
        x.unit(0, 0);
        x.unit(1, 0);
        x.diagram(0, 0, 2000, 0, 1);
        for (int i = 0; i < days; i++) {
            x.day();
        }
        x.pin(0, 1);
        x.diagram(0, 0, last, 0, 1);
        x.day();
        return x;
    }

    private static void axlesApart() {
        // Behind 4500 km the axle 0 lost 15 and the others 9, behind 4800 one more and none.
        Stablingroad six = worn(2, 500);
        check.same("8: 15 lost of the axle 0", six.axle(0, 0), 885);
        check.same("8: 9 lost of the axle 1", six.axle(0, 1), 891);
        check.same("8: 6 apart", six.whyNot(0, 1), 0);
        Stablingroad seven = worn(2, 800);
        check.same("8: 16 lost of the axle 0", seven.axle(0, 0), 884);
        check.same("8: 9 lost of the axle 3", seven.axle(0, 3), 891);
        check.same("8: 7 apart", seven.whyNot(0, 1), 5);
        seven.lathe(0);
        check.same("8: turned", seven.whyNot(0, 1), 0);
    }

    private static void whichComesFirst() {
        Stablingroad x = worn(2, 800);
        x.fault(0, FLAT, 0, 5);
        x.diagram(0, 0, 1, 2, 1);
        x.diagram(2, 0, 1, 2, 1);
        x.exam(1, 4800, 0, 400);
        check.same("8: the place before all", x.whyNot(0, 3), 1);
        check.same("8: the exam before the list", x.whyNot(0, 2), 2);
        x.exam(1, 4801, 0, 400);
        check.same("8: the list before the flat", x.whyNot(0, 2), 3);
        x.list(FLAT, 0, 2);
        check.same("8: the flat before the axles", x.whyNot(0, 2), 4);
        x.fault(0, TOILET, 0, 0);
        check.same("8: the list of all before the flat", x.whyNot(0, 2), 3);
        x.mend(0, 1);
        x.lathe(0);
        check.same("8: nothing left", x.whyNot(0, 2), 0);
    }
}
