import java.util.function.Supplier;

/** Objects in states that several tests begin with. */
final class Depots {
    private Depots() {}

    /** Three units, two diagrams, faults, a pin, the lathe taken, and a day that went by. */
    static Supplier<Stablingroad> small() {
        return Check.after(x -> {
            x.unit(0, 100);
            x.unit(1, 250);
            x.unit(0, 7);
            x.diagram(0, 0, 850, 1, 10);
            x.diagram(1, 2, 60, 2, 20);
            x.list(Stablingroad.TOILET, 4, 1);
            x.fault(0, Stablingroad.TOILET, 0, 0);
            x.fault(1, Stablingroad.FLAT, 2, 3);
            x.day();
            x.pin(1, 1);
            x.lathe(0);
        });
    }

    static void everyFaultMayRun(Stablingroad x) {
        for (int kind = 0; kind < 4; kind++) {
            x.list(kind, 30, 2);
        }
    }

    static void examsFarAway(Stablingroad x) {
        for (int k = 0; k < 3; k++) {
            x.exam(k, 100000, 20, 400);
        }
    }

    /**
     * So many units at the depot 0, of which those named are soon, and behind them one at the depot 2.
     * There is a diagram for each that is soon, from 0 on, pinned to the one at the depot 2, so that
     * none runs it any more. A diagram told then may have 20 km.
     */
    static Stablingroad withSoon(int units, int... soon) {
        Stablingroad x = new Stablingroad();
        for (int u = 0; u < units; u++) {
            x.unit(0, 0);
        }
        x.unit(2, 0);
        for (int i = 0; i < soon.length; i++) {
            x.diagram(0, 0, 80, 0, 1);
            x.pin(i, soon[i]);
        }
        x.day();
        x.exam(0, 100, 0, 9);
        for (int i = 0; i < soon.length; i++) {
            x.pin(i, units);
        }
        return x;
    }

    /** A unit at the depot 0 that ran so many km, in one go, and a diagram of 1 km from there. */
    static Stablingroad behindKm(int told, int ran) {
        Stablingroad x = new Stablingroad();
        examsFarAway(x);
        x.unit(0, told);
        x.diagram(0, 1, ran, 0, 1);
        x.diagram(1, 0, 1, 0, 1);
        x.day();
        return x;
    }

    /** A unit at the depot 0 that ran so many km, and may go on so. */
    static Stablingroad atShop(int ran) {
        Stablingroad x = new Stablingroad();
        examsFarAway(x);
        x.unit(0, 0);
        x.diagram(0, 0, ran, 0, 1);
        x.day();
        return x;
    }
}
