import java.util.List;
import java.util.function.Supplier;
import java.util.function.ToIntBiFunction;

/**
 * Promises 2 to 10, 13 to 15, 17 to 21, 23 and 24: each number of each call at both ends of its range,
 * beside them, and as small and as great as an int; a call that is refused changes nothing.
 */
public final class RangesTest {
    private static final Class<IndexOutOfBoundsException> INDEX = IndexOutOfBoundsException.class;
    private static final Class<IllegalArgumentException> ARGUMENT = IllegalArgumentException.class;
    private static final int NONE = Stablingroad.NONE;
    private static final int FLAT = Stablingroad.FLAT;
    private static final int DOOR = Stablingroad.DOOR;
    private static final int ENGINE = Stablingroad.ENGINE;
    private static final int TOILET = Stablingroad.TOILET;

    /** An object with so many units, and as many diagrams. */
    private record Sized(int count, Supplier<Stablingroad> made) {}

    private static final List<Sized> SIZES = List.of(
            new Sized(0, Stablingroad::new),
            new Sized(1, Depots.single()),
            new Sized(6, Depots.full()));

    private static final Check check = new Check();

    private RangesTest() {}

    public static void main(String[] args) {
        unit();
        diagram();
        exam();
        list();
        fault();
        faultNumbersThatDoNotMatter();
        unitNumbers();
        diagramNumbers();
        examNumbers();
        faultPlaces();
        pinnedUnits();
        whats();
        axlesAndPlaces();
        daysThatRan();
        check.end("RangesTest");
    }

    private static void unit() {
        Supplier<Stablingroad> small = Depots.small();
        check.range("2: depot", INDEX, small, 0, 2, (y, n) -> y.unit(n, 5));
        check.range("2: km", ARGUMENT, small, 0, 1000000, (y, n) -> y.unit(0, n));
    }

    private static void diagram() {
        Supplier<Stablingroad> small = Depots.small();
        check.range("3: from", INDEX, small, 0, 2, (y, n) -> y.diagram(n, 1, 9, 1, 9));
        check.range("3: to", INDEX, small, 0, 2, (y, n) -> y.diagram(1, n, 9, 1, 9));
        check.range("3: km", ARGUMENT, small, 1, 2000, (y, n) -> y.diagram(0, 1, n, 1, 9));
        check.range("3: line", ARGUMENT, small, 0, 2, (y, n) -> y.diagram(0, 1, 9, n, 9));
        check.range("3: weight", ARGUMENT, small, 1, 100, (y, n) -> y.diagram(0, 1, 9, 1, n));
    }

    /** In a state in which any change of what was told of the exam would show. */
    private static void exam() {
        for (int k = 0; k < 3; k++) {
            int exam = k;
            Supplier<Stablingroad> tight = Depots.tightExam(exam);
            check.range("4: exam", INDEX, tight, 0, 2, (y, n) -> y.exam(n, 777, 3, 9));
            check.range("4: km of exam " + exam, ARGUMENT, tight, 100, 100000,
                    (y, n) -> y.exam(exam, n, 3, 9));
            check.range("4: tolerance of exam " + exam, ARGUMENT, tight, 0, 20,
                    (y, n) -> y.exam(exam, 777, n, 9));
            check.range("4: days of exam " + exam, ARGUMENT, tight, 0, 400,
                    (y, n) -> y.exam(exam, 777, 3, n));
        }
    }

    private static void list() {
        for (int k = 0; k < 4; k++) {
            int kind = k;
            Supplier<Stablingroad> tight = Depots.tightList(kind);
            check.range("5: kind", INDEX, tight, 0, 3, (y, n) -> y.list(n, 30, 2));
            check.range("5: kind, not at all", INDEX, tight, 0, 3, (y, n) -> y.list(n, NONE, 2));
            check.range("5: days of kind " + kind, ARGUMENT, tight, NONE, 30,
                    (y, n) -> y.list(kind, n, 2));
            check.range("5: line of kind " + kind, ARGUMENT, tight, 0, 2,
                    (y, n) -> y.list(kind, 30, n));
            check.range("5: line with 0 days", ARGUMENT, tight, 0, 2, (y, n) -> y.list(kind, 0, n));
            check.anyNumber("5: line with NONE", tight, (y, n) -> y.list(kind, NONE, n));
        }
    }

    private static void fault() {
        Supplier<Stablingroad> small = Depots.small();
        for (int k = 0; k < 4; k++) {
            int kind = k;
            check.range("6: unit", INDEX, small, 0, 2, (y, n) -> y.fault(n, kind, 0, 1));
        }
        check.range("6: kind", INDEX, small, 0, 3, (y, n) -> y.fault(0, n, 0, 1));
        check.range("6: axle", INDEX, small, 0, 3, (y, n) -> y.fault(0, FLAT, n, 1));
        check.range("6: car", INDEX, small, 0, 3, (y, n) -> y.fault(0, DOOR, n, 1));
        check.range("6: depth", ARGUMENT, small, 1, 20, (y, n) -> y.fault(0, FLAT, 3, n));
        check.range("6: power", ARGUMENT, small, 1, 100, (y, n) -> y.fault(0, ENGINE, 3, n));
    }

    private static void faultNumbersThatDoNotMatter() {
        Supplier<Stablingroad> small = Depots.small();
        check.anyNumber("6: where, engine", small, (y, n) -> y.fault(0, ENGINE, n, 1));
        check.anyNumber("6: where, toilet", small, (y, n) -> y.fault(0, TOILET, n, 1));
        check.anyNumber("6: amount, door", small, (y, n) -> y.fault(0, DOOR, 3, n));
        check.anyNumber("6: amount, toilet", small, (y, n) -> y.fault(0, TOILET, 0, n));
        check.anyNumber("6: both, toilet", small, (y, n) -> y.fault(0, TOILET, n, n));
    }

    private static void numbers(String what, ToIntBiFunction<Stablingroad, Integer> call) {
        for (Sized size : SIZES) {
            check.range(what, INDEX, size.made, 0, size.count - 1, call);
        }
    }

    private static void unitNumbers() {
        numbers("6: unit", (y, n) -> y.fault(n, TOILET, 0, 0));
        numbers("13: unit", (y, n) -> y.examine(n, 1));
        numbers("14: unit", (y, n) -> y.lathe(n));
        numbers("15: unit", (y, n) -> y.mend(n, 0));
        for (int w = 0; w < 6; w++) {
            int what = w;
            numbers("17: unit", (y, n) -> y.about(n, what));
        }
        numbers("18: unit, km", (y, n) -> y.clock(n, 2, false));
        numbers("18: unit, days", (y, n) -> y.clock(n, 2, true));
        numbers("19: unit", (y, n) -> y.axle(n, 0));
        for (int w = 0; w < 4; w++) {
            int what = w;
            numbers("20: unit", (y, n) -> y.faultAt(n, 0, what));
        }
        numbers("24: unit", (y, n) -> y.kmAnew(n));
        check.range("8: unit", INDEX, Depots.single(), 0, 0, (y, n) -> y.whyNot(n, 0));
        check.range("8: unit", INDEX, Depots.full(), 0, 5, (y, n) -> y.whyNot(n, 5));
        Supplier<Stablingroad> noUnits = Check.after(y -> y.diagram(0, 0, 1, 0, 1));
        check.range("8: no units", INDEX, noUnits, 0, -1, (y, n) -> y.whyNot(n, 0));
    }

    private static void diagramNumbers() {
        numbers("7: diagram, to none", (y, n) -> y.pin(n, NONE));
        numbers("9: diagram", (y, n) -> y.allocation(n));
        check.range("7: diagram", INDEX, Depots.single(), 0, 0, (y, n) -> y.pin(n, 0));
        check.range("7: diagram", INDEX, Depots.full(), 0, 5, (y, n) -> y.pin(n, 5));
        check.range("8: diagram", INDEX, Depots.single(), 0, 0, (y, n) -> y.whyNot(0, n));
        check.range("8: diagram", INDEX, Depots.full(), 0, 5, (y, n) -> y.whyNot(5, n));
        check.range("10: diagram", INDEX, Stablingroad::new, 0, -1, (y, n) -> y.allocationAnew(n));
        check.range("10: diagram", INDEX, Depots.single(), 0, 0, (y, n) -> y.allocationAnew(n));
        Supplier<Stablingroad> four = Check.after(y -> {
            for (int d = 0; d < 4; d++) {
                y.diagram(0, 0, 9, 0, 1);
            }
        });
        check.range("10: diagram", INDEX, four, 0, 3, (y, n) -> y.allocationAnew(n));
        check.range("23: diagram", INDEX, Depots.single(), 0, 0, (y, n) -> y.ran(n, 0));
        check.range("23: diagram", INDEX, Depots.full(), 0, 5, (y, n) -> y.ran(n, 0));
        Supplier<Stablingroad> noDiagrams = Check.after(y -> {
            y.unit(0, 0);
            y.day();
        });
        check.range("7: no diagrams", INDEX, noDiagrams, 0, -1, (y, n) -> y.pin(n, 0));
        check.range("8: no diagrams", INDEX, noDiagrams, 0, -1, (y, n) -> y.whyNot(0, n));
        check.range("23: no diagrams", INDEX, noDiagrams, 0, -1, (y, n) -> y.ran(n, 0));
    }

    private static void examNumbers() {
        Supplier<Stablingroad> small = Depots.small();
        check.range("13: exam", INDEX, small, 0, 2, (y, n) -> y.examine(0, n));
        check.range("18: exam, km", INDEX, small, 0, 2, (y, n) -> y.clock(1, n, false));
        check.range("18: exam, days", INDEX, small, 0, 2, (y, n) -> y.clock(1, n, true));
    }

    private static void faultPlaces() {
        Supplier<Stablingroad> eight = Depots.eightFaults();
        check.range("15: one of eight", INDEX, eight, 0, 7, (y, n) -> y.mend(0, n));
        check.range("15: one of none", INDEX, eight, 0, -1, (y, n) -> y.mend(1, n));
        check.range("15: the only one", INDEX, Depots.single(), 0, 0, (y, n) -> y.mend(0, n));
        Supplier<Stablingroad> seven = Check.after(eight, y -> y.mend(0, 7));
        check.range("15: one of seven", INDEX, seven, 0, 6, (y, n) -> y.mend(0, n));
        for (int w = 0; w < 4; w++) {
            int what = w;
            check.range("20: one of eight", INDEX, eight, 0, 7, (y, n) -> y.faultAt(0, n, what));
            check.range("20: one of seven", INDEX, seven, 0, 6, (y, n) -> y.faultAt(0, n, what));
            check.range("20: one of none", INDEX, eight, 0, -1, (y, n) -> y.faultAt(1, n, what));
        }
    }

    private static void pinnedUnits() {
        Supplier<Stablingroad> noUnits = Check.after(y -> y.diagram(0, 0, 1, 0, 1));
        check.range("7: no units", INDEX, noUnits, NONE, NONE, (y, n) -> y.pin(0, n));
        check.range("7: one unit", INDEX, Depots.single(), NONE, 0, (y, n) -> y.pin(0, n));
        check.range("7: six units", INDEX, Depots.full(), NONE, 5, (y, n) -> y.pin(5, n));
        Supplier<Stablingroad> pinned = Check.after(Depots.full(), y -> y.pin(0, 3));
        check.range("7: pinned before", INDEX, pinned, NONE, 5, (y, n) -> y.pin(0, n));
    }

    private static void whats() {
        Supplier<Stablingroad> small = Depots.small();
        check.range("17: what", ARGUMENT, small, 0, 5, (y, n) -> y.about(2, n));
        check.range("20: what", ARGUMENT, small, 0, 3, (y, n) -> y.faultAt(1, 0, n));
    }

    private static void axlesAndPlaces() {
        Supplier<Stablingroad> small = Depots.small();
        check.range("19: axle", INDEX, small, 0, 3, (y, n) -> y.axle(1, n));
        int most = Integer.MAX_VALUE;
        for (Sized size : SIZES) {
            for (int d = 0; d < 3; d++) {
                int depot = d;
                check.range("21: place", INDEX, size.made, 0, most, (y, n) -> y.stands(depot, n));
            }
            check.range("21: depot", INDEX, size.made, 0, 2, (y, n) -> y.stands(n, 0));
        }
    }

    private static void daysThatRan() {
        Supplier<Stablingroad> first = Check.after(y -> y.diagram(0, 0, 1, 0, 1));
        check.range("23: no day went by", ARGUMENT, first, 0, -1, (y, n) -> y.ran(0, n));
        check.range("23: one day went by", ARGUMENT, Depots.full(), 0, 0, (y, n) -> y.ran(5, n));
        check.range("23: all days", ARGUMENT, Depots.lastDay(), 0, 199, (y, n) -> y.ran(0, n));
    }
}
