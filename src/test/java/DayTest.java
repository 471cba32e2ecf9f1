/** Promises 12 and 16, 21 to 24: the day, the rows, and all that ran. */
public final class DayTest {
    private static final int NONE = Stablingroad.NONE;

    private static final Check check = new Check();

    private DayTest() {}

    public static void main(String[] args) {
        whatGrows();
        wheels();
        rowsAndShunts();
        shuntsInOrder();
        shopIsFree();
        lackOfTheMorning();
        lastDay();
        stands();
        ran();
        kmAnew();
        check.end("DayTest");
    }

    private static void whatGrows() {
        Stablingroad x = new Stablingroad();
        x.unit(0, 1000);
        x.unit(1, 50);
        x.diagram(0, 2, 300, 0, 7);
        check.same("12: no lack", x.day(), 0);
        check.same("16: today", x.today(), 1);
        check.same("12: came to 2", x.about(0, 0), 2);
        check.same("12: its km", x.about(0, 1), 1300);
        check.same("12: the other stays", x.about(1, 0), 1);
        check.same("12: the other's km stay", x.about(1, 1), 50);
        for (int k = 0; k < 3; k++) {
            check.same("12: clock of km " + k, x.clock(0, k, false), 300);
            check.same("12: clock of days " + k, x.clock(0, k, true), 1);
            check.same("12: the other's clock of km", x.clock(1, k, false), 0);
            check.same("12: the other's clock of days", x.clock(1, k, true), 1);
        }
        check.same("12: its weight is lacking then", x.day(), 7);
        check.same("12: days go on", x.clock(0, 0, true), 2);
        check.same("12: km do not", x.clock(0, 0, false), 300);
        check.same("16: today then", x.today(), 2);
    }

    private static void wheels() {
        wheelsBehind(0, 299, 900, 900);
        wheelsBehind(0, 300, 899, 900);
        wheelsBehind(0, 499, 899, 900);
        wheelsBehind(0, 500, 899, 899);
        wheelsBehind(299, 1, 899, 900);
        wheelsBehind(299, 201, 899, 899);
        wheelsBehind(300, 299, 900, 899);
        wheelsBehind(999999, 1, 900, 899);
        wheelsBehind(0, 2000, 894, 896);
        wheelsBehind(1000000, 2000, 893, 896);
    }

    private static void wheelsBehind(int told, int ran, int first, int others) {
        Stablingroad x = Depots.behindKm(told, ran);
        String what = "12: " + told + " and " + ran + " km, axle ";
        check.same(what + 0, x.axle(0, 0), first);
        for (int a = 1; a < 4; a++) {
            check.same(what + a, x.axle(0, a), others);
        }
    }

    private static void rowsAndShunts() {
        Stablingroad x = new Stablingroad();
        for (int u = 0; u < 4; u++) {
            x.unit(0, 0);
        }
        x.unit(1, 0);
        check.same("22: none at first", x.shunts(), 0);
        x.diagram(0, 1, 10, 0, 1);
        x.pin(0, 1);
        x.day();
        check.same("22: two stood between it and the exit", x.shunts(), 2);
        row("12: the others stay where they stood", x, 0, 3, 2, 0, NONE);
        row("12: it stands nearest the exit", x, 1, 1, 4, NONE);
        x.pin(0, 3);
        x.day();
        check.same("22: none between this and the exit", x.shunts(), 2);
        row("12: behind 3", x, 0, 2, 0, NONE);
        row("12: 3 in front", x, 1, 3, 1, 4, NONE);
    }

    private static void row(String what, Stablingroad x, int depot, int... due) {
        for (int place = 0; place < due.length; place++) {
            check.same(what + ", place " + place, x.stands(depot, place), due[place]);
        }
        for (int place = 0; place < due.length; place++) {
            if (due[place] != NONE) {
                check.same(what + ", between", x.about(due[place], 3), place);
            }
        }
    }

    private static void shuntsInOrder() {
        Stablingroad x = new Stablingroad();
        for (int u = 0; u < 4; u++) {
            x.unit(0, 0);
        }
        // The diagram 0 takes the last one first, then 1 takes the first, then 2 one between.
        x.diagram(0, 0, 10, 0, 1);
        x.diagram(0, 0, 20, 0, 1);
        x.diagram(0, 0, 30, 0, 1);
        x.pin(0, 3);
        x.pin(1, 0);
        x.pin(2, 1);
        x.day();
        check.same("22: 0, then 2, then 1", x.shunts(), 3);
        row("12: all leave, then come by diagrams", x, 0, 1, 0, 3, 2, NONE);
        x.pin(0, 2);
        x.pin(1, 3);
        x.pin(2, 0);
        x.day();
        check.same("22: 3, then 2, then 1 more", x.shunts(), 3 + 3 + 2 + 1);
        row("12: the one that stayed is last", x, 0, 0, 3, 2, 1);
    }

    private static void shopIsFree() {
        Stablingroad x = new Stablingroad();
        x.unit(0, 0);
        x.examine(0, 0);
        x.lathe(0);
        x.day();
        check.same("12: the pit is free", x.examine(0, 0), 1);
        check.same("12: the lathe is free", x.lathe(0), 900);
    }

    private static void lackOfTheMorning() {
        Stablingroad x = new Stablingroad();
        x.unit(0, 0);
        x.diagram(0, 1, 10, 0, 5);
        x.diagram(1, 0, 10, 0, 8);
        check.same("12: the lack before it left", x.day(), 8);
        check.same("11: the lack then", x.lack(), 5);
        check.same("12: the lack of the next", x.day(), 5);
    }

    private static void lastDay() {
        Stablingroad x = new Stablingroad();
        x.unit(0, 0);
        Depots.examsFarAway(x);
        x.diagram(0, 0, 1, 0, 9);
        for (int i = 0; i < 199; i++) {
            x.day();
        }
        check.same("16: the day before the last", x.today(), 199);
        check.same("12: it goes by", x.day(), 0);
        check.same("16: the last day", x.today(), 200);
        check.same("23: the day 199", x.ran(0, 199), 0);
        check.same("24: all days", x.kmAnew(0), 200);
        check.same("18: the clock of days", x.clock(0, 2, true), 200);
    }

    private static void stands() {
        Stablingroad x = new Stablingroad();
        for (int u = 0; u < 6; u++) {
            x.unit(2, 0);
        }
        row("21: a full row", x, 2, 5, 4, 3, 2, 1, 0, NONE);
        check.same("21: an empty row", x.stands(0, 0), NONE);
        check.same("21: the greatest place", x.stands(2, Integer.MAX_VALUE), NONE);
        check.same("21: and in an empty row", x.stands(0, Integer.MAX_VALUE), NONE);
    }

    private static void ran() {
        Stablingroad x = new Stablingroad();
        x.unit(0, 0);
        x.unit(1, 0);
        x.diagram(0, 1, 10, 0, 1);
        x.day();
        x.diagram(1, 0, 20, 0, 1);
        x.day();
        x.day();
        int[] first = {0, NONE, 0};
        int[] second = {NONE, 0, 1};
        for (int day = 0; day < 3; day++) {
            check.same("23: diagram 0, day " + day, x.ran(0, day), first[day]);
            check.same("23: diagram 1, day " + day, x.ran(1, day), second[day]);
        }
    }

    private static void kmAnew() {
        Stablingroad x = new Stablingroad();
        x.unit(0, 1000);
        x.unit(0, 77);
        x.diagram(0, 1, 100, 0, 1);
        x.diagram(1, 0, 33, 0, 1);
        check.same("24: as told", x.kmAnew(0), 1000);
        for (int i = 0; i < 4; i++) {
            x.day();
            for (int u = 0; u < 2; u++) {
                check.same("24: the same as the km", x.kmAnew(u), x.about(u, 1));
            }
        }
        check.same("24: both units and both diagrams", x.kmAnew(0) + x.kmAnew(1), 1077 + 400 + 99);
        x.examine(x.about(0, 0) == 0 ? 0 : 1, 2);
        check.same("24: exams do not matter", x.kmAnew(0), x.about(0, 1));
    }
}
