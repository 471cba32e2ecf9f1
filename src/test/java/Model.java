import java.util.ArrayList;
import java.util.Arrays;
import java.util.HashSet;
import java.util.List;
import java.util.Set;
import java.util.TreeMap;

/**
 * The document once more, written for plainness and in another way: nothing is counted on, all is
 * found from what was told and what happened. It bears the names of the class's own methods, so that
 * a test can call both by name.
 */
final class Model {
    private record Trip(int day, int diagram, int km) {}

    private record Flaw(int kind, int day, int where, int amount) {}

    private record Kind(int days, int line) {}

    private record Plan(int from, int to, int km, int line, int weight) {}

    private record Check(int limit, int tolerance, int days) {}

    private static final class Train {
        int depot;
        int told;
        final List<Trip> trips = new ArrayList<>();
        final List<Flaw> flaws = new ArrayList<>();
        /** For each exam how many trips were made, and which day it was, when it was done. */
        final int[] tripsBefore = new int[3];
        final int[] doneOn = new int[3];
        int turnedTo = 900;
        int kmAtTurn;

        int km() {
            return told + trips.stream().mapToInt(Trip::km).sum();
        }

        int since(int exam) {
            return trips.stream().skip(tripsBefore[exam]).mapToInt(Trip::km).sum();
        }

        int axle(int axle) {
            int each = axle == 0 ? 300 : 500;
            return turnedTo - (km() / each - kmAtTurn / each);
        }
    }

    private final List<Train> trains = new ArrayList<>();
    private final List<Plan> plans = new ArrayList<>();
    private final TreeMap<Integer, Integer> pins = new TreeMap<>();
    private final List<List<Integer>> exits = List.of(
            new ArrayList<>(), new ArrayList<>(), new ArrayList<>());
    private final Check[] checks = {
        new Check(1000, 10, 5), new Check(3000, 10, 20), new Check(9000, 10, 60)
    };
    private final Kind[] kinds = new Kind[4];
    private int today;
    private int shunts;
    private int pitUsedOn = -1;
    private int latheUsedOn = -1;

    private static void index(boolean isThere) {
        if (!isThere) {
            throw new IndexOutOfBoundsException();
        }
    }

    private static void argument(boolean isInRange) {
        if (!isInRange) {
            throw new IllegalArgumentException();
        }
    }

    private static void state(boolean isRight) {
        if (!isRight) {
            throw new IllegalStateException();
        }
    }

    private static boolean in(int value, int least, int most) {
        return least <= value && value <= most;
    }

    private Train train(int unit) {
        index(in(unit, 0, trains.size() - 1));
        return trains.get(unit);
    }

    private Plan plan(int diagram) {
        index(in(diagram, 0, plans.size() - 1));
        return plans.get(diagram);
    }

    public int unit(int depot, int km) {
        index(in(depot, 0, 2));
        argument(in(km, 0, 1000000));
        state(trains.size() != 6);
        Train train = new Train();
        train.depot = depot;
        train.told = km;
        train.kmAtTurn = km;
        Arrays.fill(train.doneOn, today);
        trains.add(train);
        exits.get(depot).add(0, trains.size() - 1);
        return trains.size() - 1;
    }

    public int diagram(int from, int to, int km, int line, int weight) {
        index(in(from, 0, 2) && in(to, 0, 2));
        argument(in(km, 1, 2000) && in(line, 0, 2) && in(weight, 1, 100));
        state(plans.size() != 6);
        plans.add(new Plan(from, to, km, line, weight));
        return plans.size() - 1;
    }

    private static int bound(Check check) {
        return (int) Math.floor(check.limit + check.limit * check.tolerance / 100.0 + 1e-9);
    }

    public int exam(int exam, int km, int tolerance, int days) {
        index(in(exam, 0, 2));
        argument(in(km, 100, 100000) && in(tolerance, 0, 20) && in(days, 0, 400));
        checks[exam] = new Check(km, tolerance, days);
        return bound(checks[exam]);
    }

    public int list(int kind, int days, int line) {
        index(in(kind, 0, 3));
        argument(days == -1 || in(days, 0, 30) && in(line, 0, 2));
        Kind before = kinds[kind];
        kinds[kind] = days == -1 ? null : new Kind(days, line);
        return before == null ? -1 : before.days;
    }

    public int fault(int unit, int kind, int where, int amount) {
        Train train = train(unit);
        index(in(kind, 0, 3));
        index(kind > 1 || in(where, 0, 3));
        argument(kind != 0 || in(amount, 1, 20));
        argument(kind != 2 || in(amount, 1, 100));
        state(train.flaws.size() != 8);
        int place = kind > 1 ? -1 : where;
        train.flaws.add(new Flaw(kind, today, place, kind % 2 == 0 ? amount : -1));
        return train.flaws.size();
    }

    public int pin(int diagram, int unit) {
        plan(diagram);
        if (unit != -1) {
            train(unit);
        }
        Integer before = unit == -1 ? pins.remove(diagram) : pins.put(diagram, unit);
        return before == null ? -1 : before;
    }

    public int whyNot(int unit, int diagram) {
        Train train = train(unit);
        Plan plan = plan(diagram);
        if (train.depot != plan.from) {
            return 1;
        }
        for (int k = 0; k < 3; k++) {
            boolean tooFar = train.since(k) + plan.km > bound(checks[k]);
            if (tooFar || today - train.doneOn[k] > checks[k].days) {
                return 2;
            }
        }
        for (Flaw flaw : train.flaws) {
            Kind kind = kinds[flaw.kind];
            if (kind == null || today - flaw.day > kind.days || plan.line > kind.line) {
                return 3;
            }
        }
        boolean isDeep = train.flaws.stream().anyMatch(f -> f.kind == 0 && f.amount > 4);
        boolean isWeak = train.flaws.stream().anyMatch(f -> f.kind == 2 && f.amount > 50);
        if (isDeep || isWeak || train.flaws.stream().filter(f -> f.kind == 1).count() > 1) {
            return 4;
        }
        int[] axles = {train.axle(0), train.axle(1), train.axle(2), train.axle(3)};
        Arrays.sort(axles);
        return axles[3] - axles[0] > 6 || axles[0] < 800 ? 5 : 0;
    }

    private boolean isSoon(Train train) {
        for (int k = 0; k < 3; k++) {
            if (train.since(k) * 100L >= 80L * checks[k].limit) {
                return true;
            }
        }
        return false;
    }

    /** Every allocation in turn; a lower list of numbers is a better one. */
    private int[] best() {
        List<Set<Integer>> may = new ArrayList<>();
        for (int d = 0; d < plans.size(); d++) {
            Set<Integer> units = new HashSet<>();
            for (int u = 0; u < trains.size(); u++) {
                if (whyNot(u, d) == 0 && pins.getOrDefault(d, u) == u) {
                    units.add(u);
                }
            }
            may.add(units);
        }
        boolean[] soon = new boolean[trains.size()];
        for (int u = 0; u < soon.length; u++) {
            soon[u] = isSoon(trains.get(u));
        }
        int[] best = new int[plans.size() + 2];
        Arrays.fill(best, Integer.MAX_VALUE);
        search(0, may, soon, new int[plans.size() + 2], best);
        return best;
    }

    /** Lists of the lack, the homing below 0, and a unit for each diagram, 99 for none. */
    private void search(int d, List<Set<Integer>> may, boolean[] soon, int[] tried, int[] best) {
        if (d == plans.size()) {
            if (Arrays.compare(tried, best) < 0) {
                System.arraycopy(tried, 0, best, 0, best.length);
            }
            return;
        }
        int[] next = tried.clone();
        next[d + 2] = 99;
        next[0] += plans.get(d).weight;
        search(d + 1, may, soon, next, best);
        for (int u : may.get(d)) {
            boolean isFree = true;
            for (int other = 0; other < d; other++) {
                isFree &= tried[other + 2] != u;
            }
            if (isFree) {
                next = tried.clone();
                next[d + 2] = u;
                next[1] -= plans.get(d).to == 0 && soon[u] ? 1 : 0;
                search(d + 1, may, soon, next, best);
            }
        }
    }

    private static int given(int[] best, int diagram) {
        return best[diagram + 2] == 99 ? -1 : best[diagram + 2];
    }

    public int allocation(int diagram) {
        plan(diagram);
        return given(best(), diagram);
    }

    public int allocationAnew(int diagram) {
        plan(diagram);
        state(plans.size() < 5);
        return given(best(), diagram);
    }

    public int lack() {
        return best()[0];
    }

    public int day() {
        state(today != 200);
        int[] best = best();
        for (int d = 0; d < plans.size(); d++) {
            int u = given(best, d);
            if (u != -1) {
                List<Integer> row = exits.get(trains.get(u).depot);
                shunts += row.indexOf(u);
                row.remove(Integer.valueOf(u));
            }
        }
        for (int d = 0; d < plans.size(); d++) {
            int u = given(best, d);
            if (u != -1) {
                Train train = trains.get(u);
                train.depot = plans.get(d).to;
                train.trips.add(new Trip(today, d, plans.get(d).km));
                exits.get(train.depot).add(0, u);
            }
        }
        today++;
        return best[0];
    }

    public int examine(int unit, int exam) {
        Train train = train(unit);
        index(in(exam, 0, 2));
        state(train.depot == 0 && pitUsedOn != today);
        pitUsedOn = today;
        for (int k = exam; k >= 0; k--) {
            train.tripsBefore[k] = train.trips.size();
            train.doneOn[k] = today;
        }
        return exam + 1;
    }

    public int lathe(int unit) {
        Train train = train(unit);
        state(train.depot == 0 && latheUsedOn != today);
        latheUsedOn = today;
        int least = Integer.MAX_VALUE;
        for (int a = 0; a < 4; a++) {
            int axle = a;
            int depths = train.flaws.stream().filter(f -> f.kind == 0 && f.where == axle)
                    .mapToInt(Flaw::amount).sum();
            least = Math.min(least, train.axle(a) - depths);
        }
        train.turnedTo = least;
        train.kmAtTurn = train.km();
        train.flaws.removeIf(f -> f.kind == 0);
        return least;
    }

    public int mend(int unit, int place) {
        Train train = train(unit);
        index(in(place, 0, train.flaws.size() - 1));
        state(train.flaws.get(place).kind != 0);
        return train.flaws.remove(place).kind;
    }

    public int today() {
        return today;
    }

    public int about(int unit, int what) {
        Train train = train(unit);
        argument(in(what, 0, 5));
        if (what == 5) {
            int bits = 0;
            for (int k = 0; k < 3; k++) {
                boolean isFar = train.since(k) > bound(checks[k]);
                bits += isFar || today - train.doneOn[k] > checks[k].days ? 1 << k : 0;
            }
            return bits;
        }
        int[] answers = {
            train.depot,
            train.km(),
            train.flaws.size(),
            exits.get(train.depot).indexOf(unit),
            isSoon(train) ? 1 : 0
        };
        return answers[what];
    }

    public int clock(int unit, int exam, boolean isDays) {
        Train train = train(unit);
        index(in(exam, 0, 2));
        return isDays ? today - train.doneOn[exam] : train.since(exam);
    }

    public int axle(int unit, int axle) {
        Train train = train(unit);
        index(in(axle, 0, 3));
        return train.axle(axle);
    }

    public int faultAt(int unit, int place, int what) {
        Train train = train(unit);
        index(in(place, 0, train.flaws.size() - 1));
        argument(in(what, 0, 3));
        Flaw flaw = train.flaws.get(place);
        return new int[] {flaw.kind, flaw.day, flaw.where, flaw.amount}[what];
    }

    public int stands(int depot, int place) {
        index(in(depot, 0, 2) && place >= 0);
        List<Integer> row = exits.get(depot);
        return place < row.size() ? row.get(place) : -1;
    }

    public int shunts() {
        return shunts;
    }

    public int ran(int diagram, int day) {
        plan(diagram);
        argument(in(day, 0, today - 1));
        for (int u = 0; u < trains.size(); u++) {
            for (Trip trip : trains.get(u).trips) {
                if (trip.day == day && trip.diagram == diagram) {
                    return u;
                }
            }
        }
        return -1;
    }

    public int kmAnew(int unit) {
        return train(unit).km();
    }
}
