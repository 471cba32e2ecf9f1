/**
 * Nothing told yet, and as much as there may be: six units and six diagrams, eight faults, the day 200.
 * What is refused then stands in RangesTest and RefusedTest.
 */
public final class MostAndNoneTest {
    private static final int NONE = Stablingroad.NONE;
    private static final int FLAT = Stablingroad.FLAT;
    private static final int DOOR = Stablingroad.DOOR;
    private static final int ENGINE = Stablingroad.ENGINE;
    private static final int TOILET = Stablingroad.TOILET;

    private static final Check check = new Check();

    private MostAndNoneTest() {}

    public static void main(String[] args) {
        nothingTold();
        daysOfNothing();
        unitsAlone();
        diagramsAlone();
        unitsBehindDiagrams();
        sixLeaveFromTheInside();
        sixLeaveFromTheExit();
        sixComeByDiagrams();
        sixRunDayByDay();
        greatestLack();
        fourDiagramsAndSixUnits();
        eightFaultsEach();
        eightFlats();
        kmOfAllDays();
        toldOnTheLastDay();
        check.end("MostAndNoneTest");
    }

    private static void nothingTold() {
        Stablingroad x = new Stablingroad();
        check.same("16: today", x.today(), 0);
        check.same("11: the lack", x.lack(), 0);
        check.same("22: shunts", x.shunts(), 0);
        for (int depot = 0; depot < 3; depot++) {
            check.same("21: nobody stands there", x.stands(depot, 0), NONE);
        }
        for (int kind = 0; kind < 4; kind++) {
            check.same("5: may not run at all", x.list(kind, 0, 0), NONE);
        }
        check.same("2: the first unit", x.unit(0, 0), 0);
        check.same("3: the first diagram", x.diagram(0, 0, 1, 0, 1), 0);
        check.same("7: not pinned", x.pin(0, NONE), NONE);
        check.same("17: no faults", x.about(0, 2), 0);
        check.same("17: none before the exit", x.about(0, 3), 0);
        check.same("17: not soon", x.about(0, 4), 0);
        check.same("17: not overdue", x.about(0, 5), 0);
        check.same("13: the pit is free", x.examine(0, 2), 3);
        check.same("14: the lathe is free", x.lathe(0), 900);
    }

    private static void daysOfNothing() {
        Stablingroad x = new Stablingroad();
        for (int day = 0; day < 200; day++) {
            check.same("12: nothing is lacking", x.day(), 0);
            check.same("16: today", x.today(), day + 1);
        }
        check.same("22: no shunts", x.shunts(), 0);
    }

    private static void unitsAlone() {
        Stablingroad x = new Stablingroad();
        x.unit(0, 70);
        check.same("11: the lack", x.lack(), 0);
        check.same("12: the day", x.day(), 0);
        check.same("17: it stays", x.about(0, 0), 0);
        check.same("21: in its row", x.stands(0, 0), 0);
        check.same("24: its km", x.kmAnew(0), 70);
        check.same("22: no shunts", x.shunts(), 0);
    }

    private static void diagramsAlone() {
        Stablingroad x = new Stablingroad();
        for (int d = 0; d < 3; d++) {
            x.diagram(d, d, 10, d, 2);
            check.same("9: there is none", x.allocation(d), NONE);
            check.same("10: there is none", x.allocationAnew(d), NONE);
        }
        check.same("11: all of it", x.lack(), 6);
        check.same("12: all of it", x.day(), 6);
        check.same("23: nobody ran", x.ran(2, 0), NONE);
        x.unit(1, 0);
        check.same("9: there is one now", x.allocation(1), 0);
        check.same("10: there is one now", x.allocationAnew(1), 0);
    }

    /** What was found without units must not stand in the way of the lowest one. */
    private static void unitsBehindDiagrams() {
        Stablingroad x = new Stablingroad();
        x.diagram(0, 0, 10, 0, 2);
        x.diagram(0, 0, 10, 0, 2);
        check.same("10: without units", x.allocationAnew(0), NONE);
        check.same("9: without units", x.allocation(1), NONE);
        for (int units = 1; units <= 3; units++) {
            x.unit(0, 0);
            int second = units == 1 ? NONE : 1;
            check.same("10: the lowest", x.allocationAnew(0), 0);
            check.same("10: the lowest but one", x.allocationAnew(1), second);
            check.same("9: the lowest", x.allocation(0), 0);
            check.same("9: the lowest but one", x.allocation(1), second);
        }
    }

    /** Six units in the row of a depot, and six diagrams from there, to these depots in turn. */
    private static Stablingroad sixAndSix(int... to) {
        Stablingroad x = new Stablingroad();
        for (int i = 0; i < 6; i++) {
            x.unit(2, 0);
            x.diagram(2, to[i % to.length], 10 + i, 0, 100);
        }
        return x;
    }

    private static void row(String what, Stablingroad x, int depot, int... due) {
        for (int place = 0; place < due.length; place++) {
            check.same(what + ", place " + place, x.stands(depot, place), due[place]);
            check.same(what + ", before it", x.about(due[place], 3), place);
        }
        check.same(what + ", nobody behind", x.stands(depot, due.length), NONE);
    }

    private static void sixLeaveFromTheInside() {
        Stablingroad x = sixAndSix(2);
        row("21: as told", x, 2, 5, 4, 3, 2, 1, 0);
        check.same("12: all of them run", x.day(), 0);
        check.same("22: 5, 4, 3, 2, 1 and 0 stood before them", x.shunts(), 15);
        row("12: they come in the same order", x, 2, 5, 4, 3, 2, 1, 0);
        for (int i = 0; i < 6; i++) {
            check.same("23: by their numbers", x.ran(i, 0), i);
            check.same("24: its km", x.kmAnew(i), 10 + i);
        }
    }

    private static void sixLeaveFromTheExit() {
        Stablingroad x = sixAndSix(2);
        for (int i = 0; i < 6; i++) {
            x.pin(i, 5 - i);
        }
        check.same("12: all of them run", x.day(), 0);
        check.same("22: nobody stood before them", x.shunts(), 0);
        row("12: the other way round", x, 2, 0, 1, 2, 3, 4, 5);
        check.same("12: once more", x.day(), 0);
        check.same("22: each stood behind all that were left", x.shunts(), 15);
    }

    private static void sixComeByDiagrams() {
        Stablingroad x = sixAndSix(0, 1, 0);
        x.day();
        row("12: at the depot 0", x, 0, 5, 3, 2, 0);
        row("12: at the depot 1", x, 1, 4, 1);
        check.same("21: nobody is left", x.stands(2, 0), NONE);
        check.same("11: all is lacking then", x.lack(), 600);
    }

    /** Each day the next unit runs a diagram; then none may run. */
    private static void sixRunDayByDay() {
        Stablingroad x = sixAndSix(2);
        for (int day = 0; day < 6; day++) {
            for (int d = 0; d < 6; d++) {
                x.pin(d, (d + day) % 6);
            }
            check.same("12: all of them run", x.day(), 0);
        }
        for (int u = 0; u < 6; u++) {
            x.fault(u, TOILET, 0, 0);
        }
        check.same("12: none of them runs", x.day(), 600);
        for (int d = 0; d < 6; d++) {
            for (int day = 0; day < 6; day++) {
                String what = "23: diagram " + d + ", day " + day;
                check.same(what, x.ran(d, day), (d + day) % 6);
            }
            check.same("23: none on the last day", x.ran(d, 6), NONE);
            check.same("24: each diagram once", x.kmAnew(d), 10 + 11 + 12 + 13 + 14 + 15);
            check.same("17: the same km", x.about(d, 1), 75);
        }
    }

    private static void greatestLack() {
        Stablingroad x = sixAndSix(1);
        check.same("11: none", x.lack(), 0);
        for (int u = 0; u < 6; u++) {
            x.fault(u, TOILET, 0, 0);
            check.same("11: each that can't run", x.lack(), 100 * u + 100);
        }
        check.same("12: all of it", x.day(), 600);
        for (int d = 0; d < 6; d++) {
            check.same("9: none", x.allocation(d), NONE);
            check.same("23: none", x.ran(d, 0), NONE);
        }
    }

    private static void fourDiagramsAndSixUnits() {
        Stablingroad x = new Stablingroad();
        for (int u = 0; u < 6; u++) {
            x.unit(u < 2 ? 1 : 0, 0);
        }
        for (int d = 0; d < 4; d++) {
            x.diagram(0, 1, 10, 0, 1);
        }
        for (int d = 0; d < 4; d++) {
            check.same("9: the last four", x.allocation(d), d + 2);
            check.same("10: the last four", x.allocationAnew(d), d + 2);
        }
        x.pin(0, 5);
        x.pin(3, 1);
        int[] due = {5, 2, 3, NONE};
        for (int d = 0; d < 4; d++) {
            check.same("9: with pins", x.allocation(d), due[d]);
            check.same("10: with pins", x.allocationAnew(d), due[d]);
        }
    }

    private static void eightFaultsEach() {
        Stablingroad x = new Stablingroad();
        for (int u = 0; u < 6; u++) {
            x.unit(u % 3, 0);
            for (int i = 0; i < 8; i++) {
                check.same("6: how many", x.fault(u, (u + i) % 4, i % 4, i + 1), i + 1);
            }
        }
        for (int u = 0; u < 6; u++) {
            check.same("17: eight", x.about(u, 2), 8);
            for (int i = 0; i < 8; i++) {
                int kind = (u + i) % 4;
                check.same("20: kind", x.faultAt(u, i, 0), kind);
                check.same("20: where", x.faultAt(u, i, 2), kind < 2 ? i % 4 : NONE);
                check.same("20: amount", x.faultAt(u, i, 3), kind % 2 == 0 ? i + 1 : NONE);
            }
        }
    }

    private static void eightFlats() {
        Stablingroad x = new Stablingroad();
        x.unit(0, 0);
        for (int i = 0; i < 8; i++) {
            x.fault(0, FLAT, 3, 20);
        }
        check.same("14: all of one axle together", x.lathe(0), 740);
        check.same("14: they are gone", x.about(0, 2), 0);
        for (int i = 0; i < 8; i++) {
            int kind = i == 0 || i == 7 ? ENGINE : FLAT;
            check.same("6: room for eight again", x.fault(0, kind, i % 4, i + 1), i + 1);
        }
        x.day();
        check.same("14: 3 and 7 of the axle 2", x.lathe(0), 740 - 10);
        check.same("14: the first and the last stay", x.about(0, 2), 2);
        check.same("20: the first", x.faultAt(0, 0, 3), 1);
        check.same("20: the last", x.faultAt(0, 1, 3), 8);
    }

    private static void kmOfAllDays() {
        Stablingroad x = new Stablingroad();
        Depots.examsFarAway(x);
        x.unit(0, 1000000);
        x.unit(0, 0);
        x.diagram(0, 0, 150, 0, 1);
        x.diagram(0, 0, 7, 0, 1);
        for (int day = 0; day < 200; day++) {
            x.pin(0, day % 2);
            check.same("12: both run", x.day(), 0);
            if (day % 10 == 0) {
                x.lathe(day / 10 % 2);
            }
        }
        check.same("17: km", x.about(0, 1), 1000000 + 100 * 150 + 100 * 7);
        check.same("24: km anew", x.kmAnew(0), 1000000 + 100 * 150 + 100 * 7);
        check.same("24: those of the other", x.kmAnew(1), 100 * 150 + 100 * 7);
        check.same("18: none was ever examined", x.clock(1, 0, false), 100 * 150 + 100 * 7);
        check.same("23: on the first day", x.ran(0, 0), 0);
        check.same("23: on the last day", x.ran(0, 199), 1);
    }

    private static void toldOnTheLastDay() {
        Stablingroad x = Depots.lastDay().get();
        check.same("2: a unit", x.unit(0, 5), 2);
        check.same("18: its clock of days", x.clock(2, 0, true), 0);
        check.same("3: a diagram", x.diagram(0, 1, 5, 0, 90), 1);
        check.same("23: told later than the first day", x.ran(1, 0), NONE);
        check.same("23: told later than the last day", x.ran(1, 199), NONE);
        check.same("6: a fault", x.fault(2, DOOR, 0, 0), 1);
        check.same("20: told today", x.faultAt(2, 0, 1), 200);
        check.same("8: it may not run", x.whyNot(2, 1), 3);
        check.same("5: the list", x.list(DOOR, 0, 0), NONE);
        check.same("8: it may run today", x.whyNot(2, 1), 0);
        check.same("4: an exam", x.exam(0, 100, 20, 0), 120);
        check.same("8: the others may not", x.whyNot(0, 1), 2);
        check.same("7: a pin", x.pin(1, 2), NONE);
        check.same("9: the allocation", x.allocation(1), 2);
        check.same("10: the same", x.allocationAnew(1), 2);
        check.same("11: the lack", x.lack(), 9);
        check.same("13: an exam is done", x.examine(1, 0), 1);
        check.same("11: one may run then", x.lack(), 0);
        check.same("14: one is turned", x.lathe(0), 900);
        check.same("15: one is mended", x.mend(2, 0), DOOR);
        check.same("16: today", x.today(), 200);
        check.same("12: no more days", Check.outcome(x::day), "IllegalStateException");
        check.same("16: the same today", x.today(), 200);
    }
}
