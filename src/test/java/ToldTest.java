import java.util.function.Supplier;

/** Promises 1 to 6: a new object, and what is told. */
public final class ToldTest {
    private static final Class<IndexOutOfBoundsException> INDEX = IndexOutOfBoundsException.class;
    private static final Class<IllegalArgumentException> ARGUMENT = IllegalArgumentException.class;
    private static final Class<IllegalStateException> STATE = IllegalStateException.class;
    private static final int NONE = Stablingroad.NONE;
    private static final int FLAT = Stablingroad.FLAT;
    private static final int DOOR = Stablingroad.DOOR;
    private static final int ENGINE = Stablingroad.ENGINE;
    private static final int TOILET = Stablingroad.TOILET;

    private static final Check check = new Check();

    private ToldTest() {}

    public static void main(String[] args) {
        constants();
        newObject();
        unit();
        unitRefused();
        diagram();
        diagramRefused();
        examBounds();
        examsAtFirst();
        examRefused();
        list();
        listRefused();
        fault();
        faultRefused();
        check.end("ToldTest");
    }

    private static void constants() {
        check.same("1: NONE", Stablingroad.NONE, -1);
        check.same("1: FLAT", Stablingroad.FLAT, 0);
        check.same("1: DOOR", Stablingroad.DOOR, 1);
        check.same("1: ENGINE", Stablingroad.ENGINE, 2);
        check.same("1: TOILET", Stablingroad.TOILET, 3);
    }

    private static void newObject() {
        Stablingroad x = new Stablingroad();
        check.same("1: today", x.today(), 0);
        check.same("1: lack", x.lack(), 0);
        check.same("1: shunts", x.shunts(), 0);
        for (int depot = 0; depot < 3; depot++) {
            check.same("1: stands at " + depot, x.stands(depot, 0), NONE);
        }
        check.refused("1: no unit", INDEX, Stablingroad::new, y -> y.about(0, 0));
        check.refused("1: no diagram", INDEX, Stablingroad::new, y -> y.allocation(0));
        check.same("1: a day of nothing", x.day(), 0);
        x.unit(0, 5);
        check.same("1: objects share nothing", new Stablingroad().unit(0, 6), 0);
        check.same("1: not the day either", new Stablingroad().today(), 0);
    }

    private static void unit() {
        Stablingroad x = new Stablingroad();
        check.same("2: unit(2, 0)", x.unit(2, 0), 0);
        check.same("2: unit(0, 1000000)", x.unit(0, 1000000), 1);
        check.same("2: unit(2, 31)", x.unit(2, 31), 2);
        check.same("2: the depot", x.about(1, 0), 0);
        check.same("2: the km", x.about(1, 1), 1000000);
        check.same("2: no faults", x.about(1, 2), 0);
        check.same("2: the last told is nearest the exit", x.stands(2, 0), 2);
        check.same("2: the first is behind it", x.stands(2, 1), 0);
        check.same("2: none behind that", x.stands(2, 2), NONE);
        for (int a = 0; a < 4; a++) {
            check.same("2: a new axle, whatever the km", x.axle(1, a), 900);
        }
        for (int k = 0; k < 3; k++) {
            check.same("2: its clock of km", x.clock(1, k, false), 0);
            check.same("2: its clock of days", x.clock(1, k, true), 0);
        }
        x.day();
        x.unit(1, 0);
        check.same("2: clocks begin when it is told", x.clock(3, 0, true), 0);
    }

    private static void unitRefused() {
        check.refused("2: depot 3", INDEX, Depots.small(), y -> y.unit(3, 0));
        check.refused("2: depot -1", INDEX, Depots.small(), y -> y.unit(-1, 0));
        check.refused("2: depot, then km", INDEX, Depots.small(), y -> y.unit(3, -1));
        check.refused("2: km -1", ARGUMENT, Depots.small(), y -> y.unit(0, -1));
        check.refused("2: km 1000001", ARGUMENT, Depots.small(), y -> y.unit(0, 1000001));
        Supplier<Stablingroad> full = Check.after(y -> {
            for (int i = 0; i < 6; i++) {
                check.same("2: its number", y.unit(i % 3, i), i);
            }
        });
        check.refused("2: the seventh", STATE, full, y -> y.unit(0, 0));
        check.refused("2: km, then the seventh", ARGUMENT, full, y -> y.unit(0, -1));
        check.refused("2: depot, then the seventh", INDEX, full, y -> y.unit(7, 0));
    }

    private static void diagram() {
        Stablingroad x = new Stablingroad();
        check.same("3: the least", x.diagram(0, 0, 1, 0, 1), 0);
        check.same("3: the greatest", x.diagram(2, 1, 2000, 2, 100), 1);
        check.same("3: the lack of both weights", x.lack(), 101);
        x.exam(0, 2000, 0, 5);
        x.unit(2, 0);
        check.same("3: goes from 2", x.whyNot(0, 1), 0);
        check.same("3: does not go from 2", x.whyNot(0, 0), 1);
        check.same("3: one day", x.day(), 1);
        check.same("3: goes to 1", x.about(0, 0), 1);
        check.same("3: its km", x.about(0, 1), 2000);
    }

    private static void diagramRefused() {
        Supplier<Stablingroad> small = Depots.small();
        check.refused("3: from 3", INDEX, small, y -> y.diagram(3, 0, 1, 0, 1));
        check.refused("3: from -1", INDEX, small, y -> y.diagram(-1, 0, 1, 0, 1));
        check.refused("3: to 3", INDEX, small, y -> y.diagram(0, 3, 1, 0, 1));
        check.refused("3: to -1", INDEX, small, y -> y.diagram(0, -1, 1, 0, 1));
        check.refused("3: to, then km", INDEX, small, y -> y.diagram(0, 3, 0, 3, 0));
        check.refused("3: km 0", ARGUMENT, small, y -> y.diagram(0, 0, 0, 0, 1));
        check.refused("3: km 2001", ARGUMENT, small, y -> y.diagram(0, 0, 2001, 0, 1));
        check.refused("3: line -1", ARGUMENT, small, y -> y.diagram(0, 0, 1, -1, 1));
        check.refused("3: line 3", ARGUMENT, small, y -> y.diagram(0, 0, 1, 3, 1));
        check.refused("3: weight 0", ARGUMENT, small, y -> y.diagram(0, 0, 1, 0, 0));
        check.refused("3: weight 101", ARGUMENT, small, y -> y.diagram(0, 0, 1, 0, 101));
        Supplier<Stablingroad> full = Check.after(y -> {
            for (int i = 0; i < 6; i++) {
                check.same("3: its number", y.diagram(i % 3, 0, 10, 0, 1), i);
            }
        });
        check.refused("3: the seventh", STATE, full, y -> y.diagram(0, 0, 1, 0, 1));
        check.refused("3: km, then the seventh", ARGUMENT, full, y -> y.diagram(0, 0, 0, 0, 1));
        check.refused("3: to, then the seventh", INDEX, full, y -> y.diagram(0, 9, 1, 0, 1));
    }

    private static void examBounds() {
        Stablingroad x = new Stablingroad();
        check.same("4: rounded down", x.exam(0, 199, 1, 0), 200);
        check.same("4: 999 and 10 percent", x.exam(1, 999, 10, 3), 1098);
        check.same("4: the least", x.exam(2, 100, 0, 0), 100);
        check.same("4: the greatest", x.exam(2, 100000, 20, 400), 120000);
        check.same("4: told once more", x.exam(2, 300, 20, 400), 360);
        x.unit(0, 0);
        x.diagram(0, 0, 360, 0, 1);
        check.same("4: the others stay", x.whyNot(0, 0), 2);
        x.exam(0, 360, 0, 0);
        check.same("4: up to both bounds", x.whyNot(0, 0), 0);
    }

    private static void examsAtFirst() {
        examAtFirst(0, 1100, 5);
        examAtFirst(1, 3300, 20);
        examAtFirst(2, 9900, 60);
    }

    /** The exam asked about keeps its first values, the others are put out of its way. */
    private static void examAtFirst(int exam, int bound, int days) {
        Stablingroad x = new Stablingroad();
        for (int k = 0; k < 3; k++) {
            if (k != exam) {
                x.exam(k, 100000, 20, 400);
            }
        }
        x.unit(0, 0);
        x.diagram(0, 0, 1100, 0, 1);
        for (int ran = 1100; ran < bound; ran += 1100) {
            check.same("4: a day of 1100 km", x.day(), 0);
            x.lathe(0);
        }
        x.diagram(0, 0, 1101, 0, 1);
        check.same("4: up to the bound of exam " + exam, x.whyNot(0, 0), 0);
        check.same("4: above the bound of exam " + exam, x.whyNot(0, 1), 2);
        Stablingroad idle = new Stablingroad();
        idle.unit(0, 0);
        for (int day = 0; day < days; day++) {
            idle.day();
        }
        check.same("4: exam " + exam + " on its last day", idle.about(0, 5) >> exam & 1, 0);
        idle.day();
        check.same("4: exam " + exam + " a day later", idle.about(0, 5) >> exam & 1, 1);
    }

    private static void examRefused() {
        Supplier<Stablingroad> small = Depots.small();
        check.refused("4: exam 3", INDEX, small, y -> y.exam(3, 100, 0, 0));
        check.refused("4: exam -1", INDEX, small, y -> y.exam(-1, 100, 0, 0));
        check.refused("4: exam, then km", INDEX, small, y -> y.exam(3, 99, 0, 0));
        check.refused("4: km 99", ARGUMENT, small, y -> y.exam(0, 99, 0, 0));
        check.refused("4: km 100001", ARGUMENT, small, y -> y.exam(0, 100001, 20, 0));
        check.refused("4: tolerance -1", ARGUMENT, small, y -> y.exam(0, 100, -1, 0));
        check.refused("4: tolerance 21", ARGUMENT, small, y -> y.exam(0, 100, 21, 0));
        check.refused("4: days -1", ARGUMENT, small, y -> y.exam(0, 100, 0, -1));
        check.refused("4: days 401", ARGUMENT, small, y -> y.exam(0, 100, 0, 401));
    }

    private static void list() {
        Stablingroad x = new Stablingroad();
        for (int kind = 0; kind < 4; kind++) {
            check.same("5: may not run at first", x.list(kind, kind, 2), NONE);
            check.same("5: the days before", x.list(kind, 30, 0), kind);
        }
        check.same("5: with NONE any line", x.list(2, NONE, -9), 30);
        check.same("5: with NONE any line", x.list(2, NONE, 3), NONE);
        check.same("5: days 0", x.list(2, 0, 0), NONE);
        check.same("5: 0 is not NONE", x.list(2, 1, 0), 0);
    }

    private static void listRefused() {
        Supplier<Stablingroad> small = Depots.small();
        check.refused("5: kind 4", INDEX, small, y -> y.list(4, 0, 0));
        check.refused("5: kind -1", INDEX, small, y -> y.list(-1, 0, 0));
        check.refused("5: kind, then days", INDEX, small, y -> y.list(4, 31, 3));
        check.refused("5: kind, with NONE", INDEX, small, y -> y.list(4, NONE, 0));
        check.refused("5: days 31", ARGUMENT, small, y -> y.list(TOILET, 31, 0));
        check.refused("5: days -2", ARGUMENT, small, y -> y.list(TOILET, -2, 0));
        check.refused("5: line 3", ARGUMENT, small, y -> y.list(TOILET, 0, 3));
        check.refused("5: line -1", ARGUMENT, small, y -> y.list(TOILET, 0, -1));
    }

    private static void fault() {
        Stablingroad x = new Stablingroad();
        x.unit(0, 0);
        x.unit(0, 0);
        check.same("6: a flat", x.fault(0, FLAT, 0, 1), 1);
        check.same("6: a deep flat", x.fault(0, FLAT, 3, 20), 2);
        check.same("6: a door, any amount", x.fault(0, DOOR, 3, -7), 3);
        check.same("6: an engine, any place", x.fault(0, ENGINE, -4, 100), 4);
        check.same("6: an engine that lost 1", x.fault(0, ENGINE, 99, 1), 5);
        check.same("6: a toilet, any of both", x.fault(0, TOILET, -4, -4), 6);
        check.same("6: each unit has its own", x.fault(1, TOILET, 0, 0), 1);
    }

    private static void faultRefused() {
        Supplier<Stablingroad> small = Depots.small();
        check.refused("6: unit 3", INDEX, small, y -> y.fault(3, FLAT, 0, 1));
        check.refused("6: unit -1", INDEX, small, y -> y.fault(-1, FLAT, 0, 1));
        check.refused("6: kind 4", INDEX, small, y -> y.fault(0, 4, 0, 1));
        check.refused("6: kind -1", INDEX, small, y -> y.fault(0, -1, 0, 1));
        check.refused("6: axle 4", INDEX, small, y -> y.fault(0, FLAT, 4, 1));
        check.refused("6: axle -1", INDEX, small, y -> y.fault(0, FLAT, -1, 1));
        check.refused("6: car 4", INDEX, small, y -> y.fault(0, DOOR, 4, 1));
        check.refused("6: car -1", INDEX, small, y -> y.fault(0, DOOR, -1, 1));
        check.refused("6: axle, then depth", INDEX, small, y -> y.fault(0, FLAT, 4, 0));
        check.refused("6: depth 0", ARGUMENT, small, y -> y.fault(0, FLAT, 0, 0));
        check.refused("6: depth 21", ARGUMENT, small, y -> y.fault(0, FLAT, 0, 21));
        check.refused("6: power 0", ARGUMENT, small, y -> y.fault(0, ENGINE, 0, 0));
        check.refused("6: power 101", ARGUMENT, small, y -> y.fault(0, ENGINE, 0, 101));
        Supplier<Stablingroad> full = Check.after(y -> {
            y.unit(0, 0);
            for (int i = 1; i <= 8; i++) {
                check.same("6: how many", y.fault(0, TOILET, 0, 0), i);
            }
        });
        check.refused("6: the ninth", STATE, full, y -> y.fault(0, TOILET, 0, 0));
        check.refused("6: depth, then the ninth", ARGUMENT, full, y -> y.fault(0, FLAT, 0, 0));
        check.refused("6: car, then the ninth", INDEX, full, y -> y.fault(0, DOOR, 4, 0));
        Stablingroad mended = full.get();
        mended.mend(0, 0);
        check.same("6: room again behind mending", mended.fault(0, DOOR, 0, 0), 8);
    }
}
