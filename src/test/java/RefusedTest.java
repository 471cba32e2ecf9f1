import java.util.function.Supplier;
import java.util.function.ToIntFunction;

/**
 * Each exception of each throws clause: the first named where several apply, what makes an
 * IllegalStateException, and nothing changed by it. The ranges stand in RangesTest.
 */
public final class RefusedTest {
    private static final Class<IndexOutOfBoundsException> INDEX = IndexOutOfBoundsException.class;
    private static final Class<IllegalArgumentException> ARGUMENT = IllegalArgumentException.class;
    private static final Class<IllegalStateException> STATE = IllegalStateException.class;
    private static final int FLAT = Stablingroad.FLAT;
    private static final int DOOR = Stablingroad.DOOR;
    private static final int ENGINE = Stablingroad.ENGINE;
    private static final int TOILET = Stablingroad.TOILET;

    private static final Check check = new Check();

    private RefusedTest() {}

    public static void main(String[] args) {
        unit();
        diagram();
        exam();
        list();
        fault();
        allocationAnew();
        lastDay();
        examine();
        lathe();
        shopStaysTaken();
        mend();
        questions();
        check.end("RefusedTest");
    }

    private static void refusedIndex(
            String what, Supplier<Stablingroad> made, ToIntFunction<Stablingroad> call) {
        check.refused(what, INDEX, made, call);
    }

    private static void refusedArgument(
            String what, Supplier<Stablingroad> made, ToIntFunction<Stablingroad> call) {
        check.refused(what, ARGUMENT, made, call);
    }

    private static void refusedState(
            String what, Supplier<Stablingroad> made, ToIntFunction<Stablingroad> call) {
        check.refused(what, STATE, made, call);
    }

    private static void unit() {
        Supplier<Stablingroad> small = Depots.small();
        Supplier<Stablingroad> full = Depots.full();
        refusedIndex("2: depot, km", small, y -> y.unit(3, -1));
        refusedIndex("2: depot, km the other way", small, y -> y.unit(-1, 1000001));
        refusedState("2: the seventh", full, y -> y.unit(0, 0));
        refusedState("2: the seventh, elsewhere", full, y -> y.unit(2, 1000000));
        refusedIndex("2: depot, the seventh", full, y -> y.unit(3, 0));
        refusedArgument("2: km, the seventh", full, y -> y.unit(0, -1));
        refusedArgument("2: great km, the seventh", full, y -> y.unit(0, 1000001));
        refusedIndex("2: depot, km, the seventh", full, y -> y.unit(-1, -1));
        Supplier<Stablingroad> spread = Check.after(y -> {
            for (int u = 0; u < 6; u++) {
                check.same("2: its number", y.unit(u % 3, 0), u);
            }
        });
        for (int d = 0; d < 3; d++) {
            int depot = d;
            refusedState("2: six at all depots together", spread, y -> y.unit(depot, 0));
        }
    }

    private static void diagram() {
        Supplier<Stablingroad> small = Depots.small();
        Supplier<Stablingroad> full = Depots.full();
        refusedIndex("3: both depots", small, y -> y.diagram(3, -1, 1, 0, 1));
        refusedIndex("3: from, km", small, y -> y.diagram(-1, 0, 0, 0, 1));
        refusedIndex("3: from, line", small, y -> y.diagram(3, 0, 1, 3, 1));
        refusedIndex("3: from, weight", small, y -> y.diagram(3, 0, 1, 0, 0));
        refusedIndex("3: to, km", small, y -> y.diagram(0, 3, 2001, 0, 1));
        refusedIndex("3: to, line", small, y -> y.diagram(0, -1, 1, -1, 1));
        refusedIndex("3: to, weight", small, y -> y.diagram(0, 3, 1, 0, 101));
        refusedState("3: the seventh", full, y -> y.diagram(0, 0, 1, 0, 1));
        refusedIndex("3: from, the seventh", full, y -> y.diagram(3, 0, 1, 0, 1));
        refusedIndex("3: to, the seventh", full, y -> y.diagram(0, -1, 1, 0, 1));
        refusedArgument("3: km, the seventh", full, y -> y.diagram(0, 0, 0, 0, 1));
        refusedArgument("3: line, the seventh", full, y -> y.diagram(0, 0, 1, 3, 1));
        refusedArgument("3: weight, the seventh", full, y -> y.diagram(0, 0, 1, 0, 101));
        refusedIndex("3: all, the seventh", full, y -> y.diagram(0, 3, 0, 3, 0));
    }

    private static void exam() {
        Supplier<Stablingroad> tight = Depots.tightExam(2);
        refusedIndex("4: exam, km", tight, y -> y.exam(3, 99, 0, 0));
        refusedIndex("4: exam, tolerance", tight, y -> y.exam(-1, 100, 21, 0));
        refusedIndex("4: exam, days", tight, y -> y.exam(3, 100, 0, 401));
        refusedIndex("4: all", tight, y -> y.exam(-1, 100001, -1, -1));
        refusedArgument("4: km, tolerance and days", tight, y -> y.exam(2, 100001, 21, 401));
    }

    private static void list() {
        Supplier<Stablingroad> tight = Depots.tightList(TOILET);
        refusedIndex("5: kind, days", tight, y -> y.list(4, 31, 0));
        refusedIndex("5: kind, line", tight, y -> y.list(-1, 0, 3));
        refusedIndex("5: kind, days and line", tight, y -> y.list(4, -2, -1));
        refusedArgument("5: days and line", tight, y -> y.list(TOILET, 31, 3));
        refusedArgument("5: days that are less than NONE, any line", tight,
                y -> y.list(TOILET, -2, 0));
    }

    private static void fault() {
        Supplier<Stablingroad> small = Depots.small();
        Supplier<Stablingroad> eight = Depots.eightFaults();
        refusedIndex("6: unit, amount", small, y -> y.fault(3, FLAT, 0, 0));
        refusedIndex("6: unit, power", small, y -> y.fault(-1, ENGINE, 0, 101));
        refusedIndex("6: axle, depth", small, y -> y.fault(0, FLAT, 4, 21));
        refusedIndex("6: axle, depth 0", small, y -> y.fault(0, FLAT, -1, 0));
        refusedIndex("6: kind, amount", small, y -> y.fault(0, 4, 0, 0));
        for (int k = 0; k < 4; k++) {
            int kind = k;
            refusedState("6: the ninth, of any kind", eight, y -> y.fault(0, kind, 3, 20));
        }
        refusedIndex("6: unit, the ninth", eight, y -> y.fault(2, TOILET, 0, 0));
        refusedIndex("6: kind, the ninth", eight, y -> y.fault(0, 4, 0, 1));
        refusedIndex("6: axle, the ninth", eight, y -> y.fault(0, FLAT, 4, 1));
        refusedIndex("6: car, the ninth", eight, y -> y.fault(0, DOOR, -1, 1));
        refusedArgument("6: depth, the ninth", eight, y -> y.fault(0, FLAT, 0, 21));
        refusedArgument("6: power, the ninth", eight, y -> y.fault(0, ENGINE, 0, 0));
        refusedIndex("6: axle, depth, the ninth", eight, y -> y.fault(0, FLAT, 4, 0));
        Stablingroad x = eight.get();
        check.same("6: another unit has room", x.fault(1, TOILET, 0, 0), 1);
        check.same("15: one is mended", x.mend(0, 7), TOILET);
        check.same("6: there is room again", x.fault(0, DOOR, 0, 0), 8);
        check.same("6: it is full again", Check.outcome(() -> x.fault(0, DOOR, 0, 0)),
                "IllegalStateException");
    }

    private static void allocationAnew() {
        for (int d = 0; d < 6; d++) {
            int diagram = d;
            refusedState("10: six diagrams", Depots.full(), y -> y.allocationAnew(diagram));
        }
        refusedIndex("10: diagram, six diagrams", Depots.full(), y -> y.allocationAnew(6));
        Supplier<Stablingroad> four = Check.after(y -> {
            y.unit(0, 0);
            for (int d = 0; d < 4; d++) {
                y.diagram(0, 0, 10, 0, 1);
            }
        });
        Supplier<Stablingroad> five = Check.after(four, y -> y.diagram(0, 0, 10, 0, 1));
        check.same("10: four diagrams", four.get().allocationAnew(0), 0);
        check.same("10: the last of four", four.get().allocationAnew(3), Stablingroad.NONE);
        refusedState("10: five diagrams", five, y -> y.allocationAnew(0));
        refusedState("10: the last of five", five, y -> y.allocationAnew(4));
        refusedIndex("10: diagram, five diagrams", five, y -> y.allocationAnew(5));
        check.same("9: five are fine", five.get().allocation(0), 0);
        check.same("11: and for the lack too", five.get().lack(), 4);
    }

    private static void lastDay() {
        Supplier<Stablingroad> last = Depots.lastDay();
        refusedState("12: the day 200", last, Stablingroad::day);
        refusedState("12: the shop is used", Check.after(last, y -> {
            y.examine(0, 0);
            y.lathe(1);
        }), Stablingroad::day);
        refusedState("12: refused before", Check.after(last, y -> {
            Check.outcome(y::day);
            y.fault(0, TOILET, 0, 0);
        }), Stablingroad::day);
    }

    private static void examine() {
        Supplier<Stablingroad> taken = Depots.shopTaken();
        Supplier<Stablingroad> free = Check.after(taken, Stablingroad::day);
        for (int k = 0; k < 3; k++) {
            int exam = k;
            refusedState("13: at the depot 1", free, y -> y.examine(1, exam));
            refusedState("13: at the depot 2", free, y -> y.examine(2, exam));
            refusedState("13: another was done", taken, y -> y.examine(3, exam));
            refusedState("13: it was done", taken, y -> y.examine(0, exam));
            refusedState("13: both", taken, y -> y.examine(1, exam));
        }
        refusedIndex("13: unit, exam", free, y -> y.examine(4, 3));
        refusedIndex("13: exam, at the depot 1", free, y -> y.examine(1, 3));
        refusedIndex("13: unit, one was done", taken, y -> y.examine(-1, 0));
        refusedIndex("13: exam, one was done", taken, y -> y.examine(3, -1));
        refusedIndex("13: exam, both", taken, y -> y.examine(1, 3));
        Supplier<Stablingroad> lathe = Check.after(free, y -> y.lathe(0));
        check.same("13: the lathe does not matter", lathe.get().examine(0, 2), 3);
    }

    private static void lathe() {
        Supplier<Stablingroad> taken = Depots.shopTaken();
        Supplier<Stablingroad> flats = Check.after(taken, y -> {
            for (int u = 0; u < 4; u++) {
                y.fault(u, FLAT, u, 5);
            }
        });
        Supplier<Stablingroad> free = Check.after(flats, Stablingroad::day);
        refusedState("14: at the depot 1", free, y -> y.lathe(1));
        refusedState("14: at the depot 2", free, y -> y.lathe(2));
        refusedState("14: another was turned", flats, y -> y.lathe(0));
        refusedState("14: it was turned", flats, y -> y.lathe(3));
        refusedState("14: both", flats, y -> y.lathe(1));
        refusedIndex("14: unit, one was turned", flats, y -> y.lathe(4));
        Supplier<Stablingroad> pit = Check.after(free, y -> y.examine(0, 0));
        check.same("14: the pit does not matter", pit.get().lathe(0), 895);
    }

    /** Only the day frees the pit and the lathe, not what else is told or done. */
    private static void shopStaysTaken() {
        Supplier<Stablingroad> told = Check.after(Depots.shopTaken(), y -> {
            y.unit(0, 5);
            y.diagram(0, 0, 10, 0, 1);
            y.exam(0, 2000, 10, 40);
            y.list(TOILET, 3, 0);
            y.fault(0, TOILET, 0, 0);
            y.fault(3, FLAT, 0, 7);
            y.mend(0, 0);
            y.pin(0, 0);
            y.allocation(0);
            y.allocationAnew(0);
            y.lack();
        });
        for (int u : new int[] {0, 3, 4}) {
            refusedState("13: one was done", told, y -> y.examine(u, 0));
            refusedState("14: one was turned", told, y -> y.lathe(u));
        }
        Stablingroad x = Check.after(told, Stablingroad::day).get();
        check.same("13: the day frees the pit", x.examine(4, 1), 2);
        check.same("14: the day frees the lathe", x.lathe(3), 893);
    }

    private static void mend() {
        Supplier<Stablingroad> flats = Check.after(y -> {
            for (int u = 0; u < 3; u++) {
                y.unit(u, 0);
                y.fault(u, TOILET, 0, 0);
                y.fault(u, FLAT, 0, 1);
                y.fault(u, DOOR, 0, 0);
                y.fault(u, FLAT, 3, 20);
            }
        });
        for (int u = 0; u < 3; u++) {
            int unit = u;
            refusedState("15: a flat", flats, y -> y.mend(unit, 1));
            refusedState("15: the last, a flat", flats, y -> y.mend(unit, 3));
            refusedIndex("15: none behind the flat", flats, y -> y.mend(unit, 4));
        }
        refusedIndex("15: unit", flats, y -> y.mend(3, 1));
        Supplier<Stablingroad> onlyFlats = Check.after(flats, y -> {
            y.mend(0, 2);
            y.mend(0, 0);
        });
        refusedState("15: a flat is the first now", onlyFlats, y -> y.mend(0, 0));
        refusedState("15: and the second", onlyFlats, y -> y.mend(0, 1));
        refusedIndex("15: there is no third", onlyFlats, y -> y.mend(0, 2));
    }

    private static void questions() {
        Supplier<Stablingroad> small = Depots.small();
        refusedIndex("7: both", small, y -> y.pin(2, 3));
        refusedIndex("8: both", small, y -> y.whyNot(3, 2));
        refusedIndex("17: unit, what", small, y -> y.about(3, 6));
        refusedIndex("17: unit, what below", small, y -> y.about(-1, -1));
        refusedIndex("18: both", small, y -> y.clock(3, 3, true));
        refusedIndex("19: both", small, y -> y.axle(3, 4));
        refusedIndex("20: unit, what", small, y -> y.faultAt(3, 0, 4));
        refusedIndex("20: place, what", small, y -> y.faultAt(0, 1, 4));
        refusedIndex("20: place below, what below", small, y -> y.faultAt(0, -1, -1));
        refusedIndex("20: no faults, what", small, y -> y.faultAt(2, 0, 4));
        refusedIndex("21: both", small, y -> y.stands(3, -1));
        refusedIndex("23: diagram, day", small, y -> y.ran(2, 1));
        refusedIndex("23: diagram below, day below", small, y -> y.ran(-1, -1));
        refusedIndex("23: no diagrams, no day", Stablingroad::new, y -> y.ran(0, 0));
    }
}
