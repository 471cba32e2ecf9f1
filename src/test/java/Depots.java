import java.util.function.Supplier;

/** Objects in states that several tests begin with. */
final class Depots {
    private Depots() {}

    /** Three units, two diagrams, faults, a pin, the lathe taken, and a day that went by. */
    static Supplier<Stablingroad> small() {
        return Check.after(x -> {
            x.unit(0, 100);
            x.unit(1, 250);
            x.unit(0, 7);
            x.diagram(0, 0, 850, 1, 10);
            x.diagram(1, 2, 60, 2, 20);
            x.list(Stablingroad.TOILET, 4, 1);
            x.fault(0, Stablingroad.TOILET, 0, 0);
            x.fault(1, Stablingroad.FLAT, 2, 3);
            x.day();
            x.pin(1, 1);
            x.lathe(0);
        });
    }

    /** A unit with a fault, a diagram, and a day that went by. */
    static Supplier<Stablingroad> single() {
        return Check.after(x -> {
            x.unit(0, 40);
            x.diagram(0, 0, 30, 1, 10);
            x.day();
            x.fault(0, Stablingroad.TOILET, 0, 0);
        });
    }

    /** As many units and diagrams as there may be, all at the depot 0, and a day that went by. */
    static Supplier<Stablingroad> full() {
        return Check.after(x -> {
            for (int i = 0; i < 6; i++) {
                x.unit(0, 100 * i);
                x.diagram(0, 0, 60 + 10 * i, i % 3, 1 + i);
            }
            x.day();
            for (int u = 0; u < 6; u++) {
                x.fault(u, Stablingroad.TOILET, 0, 0);
            }
        });
    }

    /** A unit with as many faults as it may have, and one without any, at the depot 0. */
    static Supplier<Stablingroad> eightFaults() {
        return Check.after(x -> {
            x.unit(0, 0);
            x.unit(0, 0);
            for (int i = 0; i < 8; i++) {
                x.fault(0, i % 2 == 0 ? Stablingroad.ENGINE : Stablingroad.TOILET, 0, 10 + i);
            }
        });
    }

    /** Units at each depot, two of them at the depot 0; the pit and the lathe are used today. */
    static Supplier<Stablingroad> shopTaken() {
        return Check.after(x -> {
            for (int u = 0; u < 4; u++) {
                x.unit(u % 3, 0);
            }
            x.day();
            x.examine(0, 0);
            x.lathe(3);
        });
    }

    /** The day 200, on which a unit and a diagram have been from the first day on. */
    static Supplier<Stablingroad> lastDay() {
        return Check.after(x -> {
            x.unit(0, 0);
            x.unit(0, 0);
            examsFarAway(x);
            x.diagram(0, 0, 1, 0, 9);
            for (int i = 0; i < 200; i++) {
                x.day();
            }
        });
    }

    /**
     * The exam is so set that any other limit, tolerance or days would show: the unit 1 is just soon,
     * just not overdue by its days, and may just run the diagram 1, but not the diagram 2, which is a
     * km longer; the unit 0 is just overdue by its days.
     */
    static Supplier<Stablingroad> tightExam(int exam) {
        return Check.after(x -> {
            examsFarAway(x);
            x.unit(0, 0);
            x.day();
            x.unit(0, 0);
            x.diagram(0, 0, 1000, 0, 1);
            x.pin(0, 1);
            x.day();
            x.diagram(0, 0, 375, 0, 1);
            x.diagram(0, 0, 376, 0, 1);
            x.exam(exam, 1250, 10, 1);
        });
    }

    /**
     * The kind may run 2 days and up to the line 1: the unit 0 has a fault of it just not too long, the
     * unit 1 a day longer, and there is a diagram of each line.
     */
    static Supplier<Stablingroad> tightList(int kind) {
        return Check.after(x -> {
            examsFarAway(x);
            x.unit(0, 0);
            x.unit(0, 0);
            x.fault(1, kind, 0, 1);
            x.day();
            x.fault(0, kind, 0, 1);
            x.day();
            x.day();
            for (int line = 0; line < 3; line++) {
                x.diagram(0, 0, 1, line, 1);
            }
            x.list(kind, 2, 1);
        });
    }

    static void everyFaultMayRun(Stablingroad x) {
        for (int kind = 0; kind < 4; kind++) {
            x.list(kind, 30, 2);
        }
    }

    static void examsFarAway(Stablingroad x) {
        for (int k = 0; k < 3; k++) {
            x.exam(k, 100000, 20, 400);
        }
    }

    /**
     * So many units at the depot 0, of which those named are soon, and behind them one at the depot 2.
     * There is a diagram for each that is soon, from 0 on, pinned to the one at the depot 2, so that
     * none runs it any more. A diagram told then may have 20 km.
     */
    static Stablingroad withSoon(int units, int... soon) {
        Stablingroad x = new Stablingroad();
        for (int u = 0; u < units; u++) {
            x.unit(0, 0);
        }
        x.unit(2, 0);
        for (int i = 0; i < soon.length; i++) {
            x.diagram(0, 0, 80, 0, 1);
            x.pin(i, soon[i]);
        }
        x.day();
        x.exam(0, 100, 0, 9);
        for (int i = 0; i < soon.length; i++) {
            x.pin(i, units);
        }
        return x;
    }

    /** A unit at the depot 0 that ran so many km, in one go, and a diagram of 1 km from there. */
    static Stablingroad behindKm(int told, int ran) {
        Stablingroad x = new Stablingroad();
        examsFarAway(x);
        x.unit(0, told);
        x.diagram(0, 1, ran, 0, 1);
        x.diagram(1, 0, 1, 0, 1);
        x.day();
        return x;
    }

    /** A unit at the depot 0 that ran so many km, and may go on so. */
    static Stablingroad atShop(int ran) {
        Stablingroad x = new Stablingroad();
        examsFarAway(x);
        x.unit(0, 0);
        x.diagram(0, 0, ran, 0, 1);
        x.day();
        return x;
    }
}
