/** Promises 1 to 6: a new object, and what is told. */
public final class ToldTest {
    private static final int NONE = Stablingroad.NONE;
    private static final int FLAT = Stablingroad.FLAT;
    private static final int DOOR = Stablingroad.DOOR;
    private static final int ENGINE = Stablingroad.ENGINE;
    private static final int TOILET = Stablingroad.TOILET;

    private static final Check check = new Check();

    private ToldTest() {}

    public static void main(String[] args) {
        constants();
        newObject();
        unit();
        diagram();
        examBounds();
        examsAtFirst();
        list();
        fault();
        check.end("ToldTest");
    }

    private static void constants() {
        check.same("1: NONE", Stablingroad.NONE, -1);
        check.same("1: FLAT", Stablingroad.FLAT, 0);
        check.same("1: DOOR", Stablingroad.DOOR, 1);
        check.same("1: ENGINE", Stablingroad.ENGINE, 2);
        check.same("1: TOILET", Stablingroad.TOILET, 3);
    }

    private static void newObject() {
        Stablingroad x = new Stablingroad();
        check.same("1: today", x.today(), 0);
        check.same("1: lack", x.lack(), 0);
        check.same("1: shunts", x.shunts(), 0);
        for (int depot = 0; depot < 3; depot++) {
            check.same("1: stands at " + depot, x.stands(depot, 0), NONE);
        }
        check.same("1: a day of nothing", x.day(), 0);
        x.unit(0, 5);
        check.same("1: objects share nothing", new Stablingroad().unit(0, 6), 0);
        check.same("1: not the day either", new Stablingroad().today(), 0);
    }

    private static void unit() {
        Stablingroad x = new Stablingroad();
        check.same("2: unit(2, 0)", x.unit(2, 0), 0);
        check.same("2: unit(0, 1000000)", x.unit(0, 1000000), 1);
        check.same("2: unit(2, 31)", x.unit(2, 31), 2);
        check.same("2: the depot", x.about(1, 0), 0);
        check.same("2: the km", x.about(1, 1), 1000000);
        check.same("2: no faults", x.about(1, 2), 0);
        check.same("2: the last told is nearest the exit", x.stands(2, 0), 2);
        check.same("2: the first is behind it", x.stands(2, 1), 0);
        check.same("2: none behind that", x.stands(2, 2), NONE);
        for (int a = 0; a < 4; a++) {
            check.same("2: a new axle, whatever the km", x.axle(1, a), 900);
        }
        for (int k = 0; k < 3; k++) {
            check.same("2: its clock of km", x.clock(1, k, false), 0);
            check.same("2: its clock of days", x.clock(1, k, true), 0);
        }
        x.day();
        x.unit(1, 0);
        check.same("2: clocks begin when it is told", x.clock(3, 0, true), 0);
    }

    private static void diagram() {
        Stablingroad x = new Stablingroad();
        check.same("3: the least", x.diagram(0, 0, 1, 0, 1), 0);
        check.same("3: the greatest", x.diagram(2, 1, 2000, 2, 100), 1);
        check.same("3: the lack of both weights", x.lack(), 101);
        x.exam(0, 2000, 0, 5);
        x.unit(2, 0);
        check.same("3: goes from 2", x.whyNot(0, 1), 0);
        check.same("3: does not go from 2", x.whyNot(0, 0), 1);
        check.same("3: one day", x.day(), 1);
        check.same("3: goes to 1", x.about(0, 0), 1);
        check.same("3: its km", x.about(0, 1), 2000);
    }

    private static void examBounds() {
        Stablingroad x = new Stablingroad();
        check.same("4: rounded down", x.exam(0, 199, 1, 0), 200);
        check.same("4: 999 and 10 percent", x.exam(1, 999, 10, 3), 1098);
        check.same("4: the least", x.exam(2, 100, 0, 0), 100);
        check.same("4: the greatest", x.exam(2, 100000, 20, 400), 120000);
        check.same("4: told once more", x.exam(2, 300, 20, 400), 360);
        x.unit(0, 0);
        x.diagram(0, 0, 360, 0, 1);
        check.same("4: the others stay", x.whyNot(0, 0), 2);
        x.exam(0, 360, 0, 0);
        check.same("4: up to both bounds", x.whyNot(0, 0), 0);
    }

    private static void examsAtFirst() {
        examAtFirst(0, 1100, 5);
        examAtFirst(1, 3300, 20);
        examAtFirst(2, 9900, 60);
    }

    /** The exam asked about keeps its first values, the others are put out of its way. */
    private static void examAtFirst(int exam, int bound, int days) {
        Stablingroad x = new Stablingroad();
        for (int k = 0; k < 3; k++) {
            if (k != exam) {
                x.exam(k, 100000, 20, 400);
            }
        }
        x.unit(0, 0);
        x.diagram(0, 0, 1100, 0, 1);
        for (int ran = 1100; ran < bound; ran += 1100) {
            check.same("4: a day of 1100 km", x.day(), 0);
            x.lathe(0);
        }
        x.diagram(0, 0, 1101, 0, 1);
        check.same("4: up to the bound of exam " + exam, x.whyNot(0, 0), 0);
        check.same("4: above the bound of exam " + exam, x.whyNot(0, 1), 2);
        Stablingroad idle = new Stablingroad();
        idle.unit(0, 0);
        for (int day = 0; day < days; day++) {
            idle.day();
        }
        check.same("4: exam " + exam + " on its last day", idle.about(0, 5) >> exam & 1, 0);
        idle.day();
        check.same("4: exam " + exam + " a day later", idle.about(0, 5) >> exam & 1, 1);
    }

    private static void list() {
        Stablingroad x = new Stablingroad();
        for (int kind = 0; kind < 4; kind++) {
            check.same("5: may not run at first", x.list(kind, kind, 2), NONE);
            check.same("5: the days before", x.list(kind, 30, 0), kind);
        }
        check.same("5: with NONE any line", x.list(2, NONE, -9), 30);
        check.same("5: with NONE any line", x.list(2, NONE, 3), NONE);
        check.same("5: days 0", x.list(2, 0, 0), NONE);
        check.same("5: 0 is not NONE", x.list(2, 1, 0), 0);
    }

    private static void fault() {
        Stablingroad x = new Stablingroad();
        x.unit(0, 0);
        x.unit(0, 0);
        check.same("6: a flat", x.fault(0, FLAT, 0, 1), 1);
        check.same("6: a deep flat", x.fault(0, FLAT, 3, 20), 2);
        check.same("6: a door, any amount", x.fault(0, DOOR, 3, -7), 3);
        check.same("6: an engine, any place", x.fault(0, ENGINE, -4, 100), 4);
        check.same("6: an engine that lost 1", x.fault(0, ENGINE, 99, 1), 5);
        check.same("6: a toilet, any of both", x.fault(0, TOILET, -4, -4), 6);
        check.same("6: each unit has its own", x.fault(1, TOILET, 0, 0), 1);
    }
}
