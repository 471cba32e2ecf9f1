/** Promises 16 to 20: questions about units and their parts. */
public final class QuestionsTest {
    private static final int NONE = Stablingroad.NONE;

    private static final Check check = new Check();

    private QuestionsTest() {}

    public static void main(String[] args) {
        about();
        soon();
        overdue();
        clock();
        axle();
        faultAt();
        askingChangesNothing();
        check.end("QuestionsTest");
    }

    private static void about() {
        Stablingroad x = new Stablingroad();
        x.unit(1, 11);
        x.unit(2, 22);
        x.unit(1, 33);
        x.fault(2, Stablingroad.TOILET, 0, 0);
        x.fault(2, Stablingroad.TOILET, 0, 0);
        int[][] due = {{1, 11, 0, 1, 0, 0}, {2, 22, 0, 0, 0, 0}, {1, 33, 2, 0, 0, 0}};
        for (int u = 0; u < due.length; u++) {
            for (int what = 0; what < 6; what++) {
                check.same("17: about(" + u + ", " + what + ")", x.about(u, what), due[u][what]);
            }
        }
    }

    private static void soon() {
        for (int exam = 0; exam < 3; exam++) {
            Stablingroad x = Depots.behindKm(5000, 1000);
            check.same("17: not soon", x.about(0, 4), 0);
            x.exam(exam, 1250, 0, 400);
            check.same("17: 80 percent of exam " + exam, x.about(0, 4), 1);
            x.exam(exam, 1251, 20, 0);
            check.same("17: less than that", x.about(0, 4), 0);
            x.exam(exam, 500, 0, 400);
            check.same("17: soon above the bound too", x.about(0, 4), 1);
        }
        Stablingroad rounded = Depots.behindKm(0, 81);
        rounded.exam(0, 101, 0, 9);
        check.same("17: 81 of 101 is soon", rounded.about(0, 4), 1);
        rounded.exam(0, 102, 0, 9);
        check.same("17: 81 of 102 is not", rounded.about(0, 4), 0);
    }

    private static void overdue() {
        Stablingroad x = Depots.behindKm(5000, 1100);
        check.same("17: none overdue", x.about(0, 5), 0);
        for (int exam = 0; exam < 3; exam++) {
            x.exam(exam, 1000, 10, 1);
            check.same("17: up to the bound and the days", x.about(0, 5), 0);
            x.exam(exam, 1000, 9, 1);
            check.same("17: above the bound of " + exam, x.about(0, 5), 1 << exam);
            x.exam(exam, 1099, 0, 1);
            check.same("17: by 1 above the bound of " + exam, x.about(0, 5), 1 << exam);
            x.exam(exam, 1000, 10, 0);
            check.same("17: above the days of " + exam, x.about(0, 5), 1 << exam);
            x.exam(exam, 100000, 10, 400);
        }
        x.exam(0, 1000, 9, 1);
        x.exam(2, 1000, 10, 0);
        check.same("17: two of them", x.about(0, 5), 5);
        x.exam(1, 100, 0, 0);
        check.same("17: all", x.about(0, 5), 7);
    }

    private static void clock() {
        Stablingroad x = Depots.behindKm(5000, 700);
        x.day();
        x.examine(0, 0);
        check.same("18: km behind the exam", x.clock(0, 0, false), 0);
        check.same("18: days behind the exam", x.clock(0, 0, true), 0);
        check.same("18: km", x.clock(0, 1, false), 701);
        check.same("18: days", x.clock(0, 2, true), 2);
    }

    private static void axle() {
        Stablingroad x = Depots.behindKm(0, 1000);
        check.same("19: axle 0", x.axle(0, 0), 897);
        check.same("19: axle 3", x.axle(0, 3), 898);
        x.fault(0, Stablingroad.FLAT, 3, 20);
        check.same("19: a flat is not the axle's size", x.axle(0, 3), 898);
    }

    private static void faultAt() {
        Stablingroad x = new Stablingroad();
        x.unit(0, 0);
        x.unit(0, 0);
        x.fault(0, Stablingroad.FLAT, 3, 20);
        x.fault(0, Stablingroad.DOOR, 2, 9);
        x.day();
        x.fault(0, Stablingroad.ENGINE, 2, 100);
        x.day();
        x.fault(0, Stablingroad.TOILET, 2, 9);
        x.fault(1, Stablingroad.TOILET, 2, 9);
        int[][] due = {{0, 0, 3, 20}, {1, 0, 2, NONE}, {2, 1, NONE, 100}, {3, 2, NONE, NONE}};
        for (int place = 0; place < due.length; place++) {
            for (int what = 0; what < 4; what++) {
                String call = "20: faultAt(0, " + place + ", " + what + ")";
                check.same(call, x.faultAt(0, place, what), due[place][what]);
            }
        }
        x.mend(0, 1);
        check.same("20: those that are gone not counted", x.faultAt(0, 1, 1), 1);
    }

    private static void askingChangesNothing() {
        Stablingroad asked = Depots.small().get();
        asked.today();
        asked.shunts();
        for (int what = 0; what < 6; what++) {
            asked.about(1, what);
        }
        asked.clock(1, 0, true);
        asked.axle(1, 0);
        asked.faultAt(1, 0, 1);
        asked.stands(0, 0);
        asked.ran(0, 0);
        asked.kmAnew(0);
        asked.whyNot(0, 0);
        check.same("16: asking changes nothing", Seen.all(asked), Seen.all(Depots.small().get()));
    }
}
