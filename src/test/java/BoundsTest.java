/**
 * Each 'above', 'below', 'at least' and 'more than' of the document at its bound and beside it, as far
 * as the tests of the single promises leave it.
 */
public final class BoundsTest {
    private static final int NONE = Stablingroad.NONE;
    private static final int FLAT = Stablingroad.FLAT;
    private static final int DOOR = Stablingroad.DOOR;
    private static final int ENGINE = Stablingroad.ENGINE;
    private static final int TOILET = Stablingroad.TOILET;

    private static final Check check = new Check();

    private BoundsTest() {}

    public static void main(String[] args) {
        for (int exam = 0; exam < 3; exam++) {
            tightExam(exam);
            kmOverdue(exam);
            daysOfExam(exam);
            soonAtFirst(exam);
        }
        for (int kind = 0; kind < 4; kind++) {
            tightList(kind);
            daysOfTheList(kind);
            linesOfTheList(kind);
        }
        depths();
        powers();
        doors();
        firstAxleTooSmall();
        leastLackBeforeHoming();
        check.end("BoundsTest");
    }

    private static void tightExam(int exam) {
        Stablingroad x = Depots.tightExam(exam).get();
        String of = " of exam " + exam;
        check.same("17: clock times 100 is 80 times the limit" + of, x.about(1, 4), 1);
        check.same("17: days as told" + of, x.about(1, 5), 0);
        check.same("17: a day above" + of, x.about(0, 5), 1 << exam);
        check.same("8: clock and km up to the bound" + of, x.whyNot(1, 1), 0);
        check.same("8: a km above" + of, x.whyNot(1, 2), 2);
        check.same("8: a day above" + of, x.whyNot(0, 1), 2);
        check.same("4: a limit 1 greater" + of, x.exam(exam, 1251, 10, 1), 1376);
        check.same("17: less than 80 of it" + of, x.about(1, 4), 0);
        check.same("8: the km fit" + of, x.whyNot(1, 2), 0);
        check.same("4: a limit 1 less" + of, x.exam(exam, 1249, 10, 1), 1373);
        check.same("17: more than 80 of it" + of, x.about(1, 4), 1);
        check.same("8: the km don't fit" + of, x.whyNot(1, 1), 2);
        x.exam(exam, 1250, 20, 2);
        check.same("17: a day more" + of, x.about(0, 5), 0);
        check.same("8: a day more" + of, x.whyNot(0, 2), 0);
        x.exam(exam, 1250, 20, 0);
        check.same("17: a day less" + of, x.about(1, 5), 1 << exam);
        check.same("8: a day less" + of, x.whyNot(1, 1), 2);
    }

    /** The unit 1 ran 1000 km since the exam. */
    private static void kmOverdue(int exam) {
        overdue(exam, 1000, 0, 1000, 0);
        overdue(exam, 999, 0, 999, 1);
        overdue(exam, 953, 5, 1000, 0);
        overdue(exam, 952, 5, 999, 1);
        overdue(exam, 910, 10, 1001, 0);
        overdue(exam, 909, 10, 999, 1);
        overdue(exam, 834, 20, 1000, 0);
        overdue(exam, 833, 20, 999, 1);
    }

    private static void overdue(int exam, int limit, int tolerance, int bound, int due) {
        Stablingroad x = Depots.tightExam(exam).get();
        String what = limit + " and " + tolerance + " percent of exam " + exam;
        check.same("4: bound of " + what, x.exam(exam, limit, tolerance, 1), bound);
        check.same("17: overdue by " + what, x.about(1, 5), due << exam);
    }

    private static void daysOfExam(int exam) {
        for (int days : new int[] {0, 1, 199}) {
            Stablingroad x = new Stablingroad();
            Depots.examsFarAway(x);
            x.exam(exam, 1000, 10, days);
            x.unit(0, 0);
            x.diagram(0, 0, 1, 0, 1);
            x.unit(1, 0);
            x.pin(0, 1);
            idle(x, days);
            check.same("17: on the day " + days, x.about(0, 5), 0);
            check.same("8: on the day " + days, x.whyNot(0, 0), 0);
            x.day();
            check.same("17: a day behind " + days, x.about(0, 5), 1 << exam);
            check.same("8: a day behind " + days, x.whyNot(0, 0), 2);
        }
        Stablingroad most = Depots.lastDay().get();
        check.same("17: never behind 400 days", most.about(0, 5), 0);
        most.exam(exam, 100000, 20, 200);
        check.same("17: on the day 200", most.about(0, 5), 0);
        most.exam(exam, 100000, 20, 199);
        check.same("17: a day behind 199", most.about(0, 5), 1 << exam);
    }

    private static void idle(Stablingroad x, int days) {
        for (int i = 0; i < days; i++) {
            x.day();
        }
    }

    /** With what is at first: 800 of 1000 km, 2400 of 3000, 7200 of 9000. */
    private static void soonAtFirst(int exam) {
        int limit = new int[] {1000, 3000, 9000}[exam];
        Stablingroad x = new Stablingroad();
        for (int k = 0; k < 3; k++) {
            if (k != exam) {
                x.exam(k, 100000, 20, 400);
            }
        }
        x.unit(0, 0);
        x.diagram(0, 0, limit / 5, 0, 1);
        x.diagram(0, 0, limit / 5 - 1, 0, 2);
        x.diagram(0, 0, 1, 0, 3);
        x.unit(1, 0);
        runOnly(x, 0);
        runOnly(x, 0);
        runOnly(x, 0);
        runOnly(x, 1);
        check.same("18: a km less than 80 percent", x.clock(0, exam, false), limit / 5 * 4 - 1);
        check.same("17: not soon", x.about(0, 4), 0);
        runOnly(x, 2);
        check.same("18: 80 percent", x.clock(0, exam, false), limit / 5 * 4);
        check.same("17: soon", x.about(0, 4), 1);
        check.same("17: not overdue", x.about(0, 5), 0);
    }

    /** Of three diagrams one is run, by the unit 0; the unit 1 is elsewhere. */
    private static void runOnly(Stablingroad x, int diagram) {
        for (int d = 0; d < 3; d++) {
            x.pin(d, d == diagram ? 0 : 1);
        }
        x.day();
        x.lathe(0);
    }

    private static void tightList(int kind) {
        Stablingroad x = Depots.tightList(kind).get();
        String of = " of kind " + kind;
        check.same("8: as many days ago as the list tells" + of, x.whyNot(0, 1), 0);
        check.same("8: a day more" + of, x.whyNot(1, 1), 3);
        check.same("8: the line below the worst" + of, x.whyNot(0, 0), 0);
        check.same("8: the line above the worst" + of, x.whyNot(0, 2), 3);
        x.list(kind, 1, 1);
        check.same("8: a day less on the list" + of, x.whyNot(0, 1), 3);
        x.list(kind, 3, 1);
        check.same("8: a day more on the list" + of, x.whyNot(1, 1), 0);
        x.list((kind + 1) % 4, 0, 0);
        check.same("8: another kind's list does not matter" + of, x.whyNot(1, 1), 0);
    }

    private static void daysOfTheList(int kind) {
        for (int days : new int[] {0, 1, 29, 30}) {
            Stablingroad x = new Stablingroad();
            Depots.examsFarAway(x);
            x.unit(0, 0);
            x.unit(1, 0);
            x.diagram(0, 0, 1, 2, 1);
            x.pin(0, 1);
            x.day();
            x.fault(0, kind, 0, 1);
            x.list(kind, days, 2);
            idle(x, days);
            check.same("8: kind " + kind + " on the day " + days, x.whyNot(0, 0), 0);
            x.day();
            check.same("8: kind " + kind + " a day behind " + days, x.whyNot(0, 0), 3);
        }
    }

    private static void linesOfTheList(int kind) {
        Stablingroad x = new Stablingroad();
        x.unit(0, 0);
        x.fault(0, kind, 0, 1);
        for (int line = 0; line < 3; line++) {
            x.diagram(0, 0, 1, line, 1);
            check.same("8: not at all, kind " + kind + ", line " + line, x.whyNot(0, line), 3);
        }
        for (int worst = 0; worst < 3; worst++) {
            x.list(kind, 0, worst);
            for (int line = 0; line < 3; line++) {
                String what = "8: kind " + kind + ", line " + line + ", the worst is " + worst;
                check.same(what, x.whyNot(0, line), line > worst ? 3 : 0);
            }
        }
        for (int line : new int[] {Integer.MIN_VALUE, 0, 2, Integer.MAX_VALUE}) {
            x.list(kind, NONE, line);
            check.same("8: not at all, whatever the line told", x.whyNot(0, 0), 3);
        }
    }

    /** A unit whose faults may run at all, and a diagram. */
    private static Stablingroad mayRun() {
        Stablingroad x = new Stablingroad();
        Depots.everyFaultMayRun(x);
        x.unit(0, 0);
        x.diagram(0, 0, 1, 2, 1);
        return x;
    }

    private static void depths() {
        for (int depth = 1; depth <= 20; depth++) {
            Stablingroad x = mayRun();
            x.fault(0, FLAT, depth % 4, depth);
            check.same("8: a flat of " + depth, x.whyNot(0, 0), depth > 4 ? 4 : 0);
        }
    }

    private static void powers() {
        for (int power = 1; power <= 100; power++) {
            Stablingroad x = mayRun();
            x.fault(0, ENGINE, 0, power);
            check.same("8: an engine that lost " + power, x.whyNot(0, 0), power > 50 ? 4 : 0);
        }
    }

    private static void doors() {
        for (int car = 0; car < 4; car++) {
            Stablingroad x = mayRun();
            x.fault(0, DOOR, car, 0);
            check.same("8: a door", x.whyNot(0, 0), 0);
            x.fault(0, DOOR, 3, 0);
            check.same("8: two doors, of two cars or one", x.whyNot(0, 0), 4);
            x.fault(0, DOOR, 0, 0);
            check.same("8: three doors", x.whyNot(0, 0), 4);
            x.mend(0, 1);
            x.mend(0, 0);
            check.same("8: one is left", x.whyNot(0, 0), 0);
        }
    }

    /** At 299 km all axles are 800; a km more, and the axle 0 alone is less. */
    private static void firstAxleTooSmall() {
        Stablingroad x = mayRun();
        x.unit(0, 299);
        for (int i = 0; i < 5; i++) {
            x.fault(1, FLAT, i % 4, 20);
        }
        check.same("14: two flats of an axle", x.lathe(1), 860);
        x.fault(1, FLAT, 2, 20);
        x.fault(1, FLAT, 2, 20);
        x.fault(1, FLAT, 2, 20);
        x.day();
        check.same("14: three flats of an axle", x.lathe(1), 800);
        check.same("8: 800", x.whyNot(1, 0), 0);
        x.pin(0, 1);
        x.day();
        check.same("12: the axle 0 lost 1", x.axle(1, 0), 799);
        check.same("12: the axle 1 did not", x.axle(1, 1), 800);
        check.same("8: the least is below 800", x.whyNot(1, 0), 5);
    }

    /**
     * The units 3, 4 and 5 are soon, with 30, 20 and 10 km left, and would all come home by the diagrams
     * 3, 4 and 5 (of 30, 20 and 10 km), if the diagram 2, that the unit 3 alone may run, went without.
     * For it to run, each must give way: the unit 3 to 1, 4 to 0, 5 to 2.
     */
    private static void leastLackBeforeHoming() {
        Stablingroad x = new Stablingroad();
        Depots.examsFarAway(x);
        x.list(DOOR, 30, 1);
        x.list(TOILET, 30, 0);
        for (int u = 0; u < 6; u++) {
            x.unit(0, 0);
        }
        x.fault(0, DOOR, 0, 0);
        x.fault(2, TOILET, 0, 0);
        x.fault(5, DOOR, 0, 0);
        int[] lines = {1, 2, 2, 2, 1, 0};
        int[] kms = {10, 10, 10, 30, 20, 10};
        for (int d = 0; d < 6; d++) {
            x.diagram(0, d < 3 ? 1 : 0, kms[d], lines[d], 1);
            x.pin(d, d < 3 ? 2 : d);
        }
        // The unit 2 may not run any diagram but the last: pinned to it, one rests.
        int[] days = {3, 5, 11};
        for (int day = 0; day < 11; day++) {
            for (int d = 3; d < 6; d++) {
                x.pin(d, day < days[d - 3] ? d : 2);
            }
            x.day();
        }
        x.exam(0, 100, 20, 400);
        for (int d = 0; d < 6; d++) {
            x.pin(d, d == 2 ? 3 : NONE);
            check.same("17: soon", x.about(d, 4), d < 3 ? 0 : 1);
        }
        allocated("a lack of 1 less for a homing of 3 less", x, 5, 4, 3, 1, 0, 2);
        x.pin(2, 2);
        allocated("the homing, if that can't run", x, 0, 1, NONE, 3, 4, 5);
    }

    private static void allocated(String what, Stablingroad x, int... due) {
        for (int d = 0; d < due.length; d++) {
            check.same("9: " + what + ", diagram " + d, x.allocation(d), due[d]);
        }
    }
}
