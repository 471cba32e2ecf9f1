/**
 * All that an object shows of itself, as one text. The hidden settings are seen too: the pit, the
 * lathe, the pins and the list are asked by calls that may change them, so the object is used up by
 * this. What cannot be asked at all, as an exam's limit, shows in who may run, in a state that is
 * tight enough.
 */
final class Seen {
    private Seen() {}

    static String all(Stablingroad x) {
        StringBuilder text = new StringBuilder();
        text.append("today ").append(x.today()).append(" shunts ").append(x.shunts());
        text.append(" lack ").append(x.lack());
        int units = unitsOf(x);
        int diagrams = diagramsOf(x);
        for (int u = 0; u < units; u++) {
            unit(text, x, u);
        }
        for (int depot = 0; depot < 3; depot++) {
            text.append("\n  row ").append(depot).append(":");
            for (int place = 0; place < units; place++) {
                text.append(' ').append(x.stands(depot, place));
            }
        }
        for (int d = 0; d < diagrams; d++) {
            diagram(text, x, d, units);
        }
        for (int u = 0; u < units; u++) {
            shop(text, x, u);
        }
        for (int kind = 0; kind < 4; kind++) {
            text.append(" list ").append(x.list(kind, Stablingroad.NONE, 0));
        }
        text.append(" next ").append(Check.outcome(() -> x.unit(0, 0)));
        text.append(' ').append(Check.outcome(() -> x.diagram(0, 0, 1, 0, 1)));
        return text.toString();
    }

    static String aDayLater(Stablingroad x) {
        return Check.outcome(x::day) + " " + all(x);
    }

    private static int unitsOf(Stablingroad x) {
        for (int u = 0; ; u++) {
            if (isRefused(x, u)) {
                return u;
            }
        }
    }

    private static boolean isRefused(Stablingroad x, int u) {
        try {
            x.about(u, 0);
            return false;
        } catch (IndexOutOfBoundsException none) {
            return true;
        }
    }

    private static int diagramsOf(Stablingroad x) {
        for (int d = 0; ; d++) {
            try {
                x.allocation(d);
            } catch (IndexOutOfBoundsException none) {
                return d;
            }
        }
    }

    private static void unit(StringBuilder text, Stablingroad x, int u) {
        text.append("\n  unit ").append(u).append(":");
        for (int what = 0; what < 6; what++) {
            text.append(' ').append(x.about(u, what));
        }
        for (int k = 0; k < 3; k++) {
            text.append(' ').append(x.clock(u, k, false)).append('/').append(x.clock(u, k, true));
        }
        for (int a = 0; a < 4; a++) {
            text.append(' ').append(x.axle(u, a));
        }
        text.append(' ').append(x.kmAnew(u));
        int faults = x.about(u, 2);
        for (int place = 0; place < faults; place++) {
            text.append(" (");
            for (int what = 0; what < 4; what++) {
                text.append(x.faultAt(u, place, what)).append(' ');
            }
            text.append(')');
        }
    }

    private static void diagram(StringBuilder text, Stablingroad x, int d, int units) {
        text.append("\n  diagram ").append(d).append(": ").append(x.allocation(d));
        for (int u = 0; u < units; u++) {
            text.append(' ').append(x.whyNot(u, d));
        }
        int today = x.today();
        for (int day = 0; day < today; day++) {
            if (day < 3 || day > today - 3) {
                text.append(" ran ").append(x.ran(d, day));
            }
        }
        text.append(" pin ").append(x.pin(d, Stablingroad.NONE));
    }

    private static void shop(StringBuilder text, Stablingroad x, int u) {
        text.append("\n  shop ").append(Check.outcome(() -> x.examine(u, 0)));
        text.append(' ').append(Check.outcome(() -> x.lathe(u)));
    }
}
