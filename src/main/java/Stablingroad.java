import java.util.ArrayList;
import java.util.Arrays;

/**
 * Trains kept fit for tomorrow's table: units with clocks and wheels, exams, diagrams, faults, a
 * pit and a lathe, and the best allocation of each morning.
 */
public final class Stablingroad {
    /** There is none; it may not run at all. */
    public static final int NONE = -1;
    /** Kinds of faults. */
    public static final int FLAT = 0, DOOR = 1, ENGINE = 2, TOILET = 3;

    private static final int DEPOTS = 3;
    private static final int SHOP = 0;
    private static final int EXAMS = 3;
    private static final int KINDS = 4;
    private static final int AXLES = 4;
    private static final int CARS = 4;
    private static final int MOST_UNITS = 6;
    private static final int MOST_DIAGRAMS = 6;
    private static final int MOST_DIAGRAMS_ANEW = 4;
    private static final int MOST_FAULTS = 8;
    private static final int MOST_DAYS = 200;
    private static final int LINES = 3;
    private static final int NEW_AXLE = 900;

    private final ArrayList<Unit> units = new ArrayList<>();
    private final ArrayList<Diagram> diagrams = new ArrayList<>();
    private final Row[] rows = new Row[DEPOTS];
    private final Rules rules = new Rules();
    private final Morning morning = new Morning();
    private final Past past = new Past();
    private int now = 0;
    private int shuntCount = 0;
    private boolean pitIsTaken = false;
    private boolean latheIsTaken = false;

    public Stablingroad() {
        for (int i = 0; i < rows.length; i++) {
            rows[i] = new Row();
        }
    }

    // ---- units, diagrams, lists

    public int unit(int depot, int km)
            throws IndexOutOfBoundsException, IllegalArgumentException, IllegalStateException {
        Row row = rowAt(depot);
        checkRange(km, 0, 1000000);
        int number = units.size();
        if (number >= MOST_UNITS) {
            throw new IllegalStateException("there are 6 units");
        }
        units.add(new Unit(depot, km));
        row.come(number);
        return number;
    }

    public int diagram(int from, int to, int km, int line, int weight)
            throws IndexOutOfBoundsException, IllegalArgumentException, IllegalStateException {
        checkNumber(from, DEPOTS);
        checkNumber(to, DEPOTS);
        checkRange(km, 1, 2000);
        checkRange(line, 0, LINES - 1);
        checkRange(weight, 1, 100);
        int number = diagrams.size();
        if (number >= MOST_DIAGRAMS) {
            throw new IllegalStateException("there are 6 diagrams");
        }
        diagrams.add(new Diagram(from, to, km, line, weight));
        return number;
    }

    public int exam(int exam, int km, int tolerance, int days)
            throws IndexOutOfBoundsException, IllegalArgumentException {
        Exam told = rules.examAt(exam);
        checkRange(km, 100, 100000);
        checkRange(tolerance, 0, 20);
        checkRange(days, 0, 400);
        told.limit = km;
        told.tolerance = tolerance;
        told.days = days;
        return told.bound();
    }

    public int list(int kind, int days, int line)
            throws IndexOutOfBoundsException, IllegalArgumentException {
        Permit permit = rules.permitAt(kind);
        checkRange(days, NONE, 30);
        if (days != NONE) {
            checkRange(line, 0, LINES - 1);
        }
        int before = permit.days;
        permit.days = days;
        permit.worstLine = line;
        return before;
    }

    public int fault(int unit, int kind, int where, int amount)
            throws IndexOutOfBoundsException, IllegalArgumentException, IllegalStateException {
        Unit told = unitAt(unit);
        checkNumber(kind, KINDS);
        boolean hasPlace = kind == FLAT || kind == DOOR;
        boolean hasAmount = kind == FLAT || kind == ENGINE;
        if (hasPlace) {
            checkNumber(where, kind == FLAT ? AXLES : CARS);
        }
        if (hasAmount) {
            checkRange(amount, 1, kind == FLAT ? 20 : 100);
        }
        if (told.faults.size() >= MOST_FAULTS) {
            throw new IllegalStateException("the unit has 8 faults");
        }
        told.faults.add(new Fault(kind, now, hasPlace ? where : NONE, hasAmount ? amount : NONE));
        return told.faults.size();
    }

    // ---- mornings

    public int pin(int diagram, int unit) throws IndexOutOfBoundsException {
        Diagram pinned = diagramAt(diagram);
        if (unit != NONE) {
            checkNumber(unit, units.size());
        }
        int before = pinned.pinnedTo;
        pinned.pinnedTo = unit;
        return before;
    }

    public int whyNot(int unit, int diagram) throws IndexOutOfBoundsException {
        return rules.reasonAgainst(unitAt(unit), diagramAt(diagram), now);
    }

    public int allocation(int diagram) throws IndexOutOfBoundsException {
        checkNumber(diagram, diagrams.size());
        readMorning();
        morning.allocateByParts();
        return morning.givenTo(diagram);
    }

    public int allocationAnew(int diagram)
            throws IndexOutOfBoundsException, IllegalStateException {
        checkNumber(diagram, diagrams.size());
        if (diagrams.size() > MOST_DIAGRAMS_ANEW) {
            throw new IllegalStateException("more than 4 diagrams");
        }
        readMorning();
        morning.allocateByAll();
        return morning.givenTo(diagram);
    }

    public int lack() {
        readMorning();
        morning.allocateByParts();
        return morning.lackOfGiven();
    }

    public int day() throws IllegalStateException {
        if (now >= MOST_DAYS) {
            throw new IllegalStateException("today is the day 200");
        }
        readMorning();
        morning.allocateByParts();
        leaveRows();
        comeToDepots();
        for (int u = 0; u < units.size(); u++) {
            unitAt(u).growOlder();
        }
        pitIsTaken = false;
        latheIsTaken = false;
        now++;
        return morning.lackOfGiven();
    }

    // ---- the shop

    public int examine(int unit, int exam)
            throws IndexOutOfBoundsException, IllegalStateException {
        Unit examined = unitAt(unit);
        checkNumber(exam, EXAMS);
        if (examined.depot != SHOP || pitIsTaken) {
            throw new IllegalStateException("not at the depot 0, or the pit is taken");
        }
        pitIsTaken = true;
        examined.beginAgain(exam);
        return exam + 1;
    }

    public int lathe(int unit) throws IndexOutOfBoundsException, IllegalStateException {
        Unit turned = unitAt(unit);
        if (turned.depot != SHOP || latheIsTaken) {
            throw new IllegalStateException("not at the depot 0, or the lathe is taken");
        }
        latheIsTaken = true;
        return turned.turn();
    }

    public int mend(int unit, int place) throws IndexOutOfBoundsException, IllegalStateException {
        Unit mended = unitAt(unit);
        int kind = mended.faultAtPlace(place).kind;
        if (kind == FLAT) {
            throw new IllegalStateException("a flat is turned, not mended");
        }
        mended.dropFault(place);
        return kind;
    }

    // ---- questions

    public int today() {
        return now;
    }

    public int about(int unit, int what)
            throws IndexOutOfBoundsException, IllegalArgumentException {
        Unit asked = unitAt(unit);
        switch (what) {
            case 0:
                return asked.depot;
            case 1:
                return asked.km;
            case 2:
                return asked.faults.size();
            case 3:
                return rowAt(asked.depot).behind(unit);
            case 4:
                return rules.isSoon(asked) ? 1 : 0;
            case 5:
                return rules.overdueBits(asked);
            default:
                throw new IllegalArgumentException("there is nothing like that to tell of a unit");
        }
    }

    public int clock(int unit, int exam, boolean isDays) throws IndexOutOfBoundsException {
        Unit asked = unitAt(unit);
        checkNumber(exam, EXAMS);
        return isDays ? asked.daysSince(exam) : asked.kmSince(exam);
    }

    public int axle(int unit, int axle) throws IndexOutOfBoundsException {
        Unit asked = unitAt(unit);
        checkNumber(axle, AXLES);
        return asked.axleSize(axle);
    }

    public int faultAt(int unit, int place, int what)
            throws IndexOutOfBoundsException, IllegalArgumentException {
        Fault asked = unitAt(unit).faultAtPlace(place);
        switch (what) {
            case 0:
                return asked.kind;
            case 1:
                return asked.toldOn;
            case 2:
                return asked.where;
            case 3:
                return asked.amount;
            default:
                throw new IllegalArgumentException("there is nothing like that to tell of a fault");
        }
    }

    public int stands(int depot, int place) throws IndexOutOfBoundsException {
        Row row = rowAt(depot);
        if (place < 0) {
            throw new IndexOutOfBoundsException("no such place");
        }
        return row.fromExit(place);
    }

    public int shunts() {
        return shuntCount;
    }

    public int ran(int diagram, int day)
            throws IndexOutOfBoundsException, IllegalArgumentException {
        checkNumber(diagram, diagrams.size());
        checkRange(day, 0, now - 1);
        return past.unitThatRan(diagram, day);
    }

    public int kmAnew(int unit) throws IndexOutOfBoundsException {
        int km = unitAt(unit).kmTold;
        for (int d = 0; d < diagrams.size(); d++) {
            km += diagramAt(d).km * past.timesThatRan(d, unit);
        }
        return km;
    }

    // ---- what the calls share

    private static void checkNumber(int number, int count) {
        if (number < 0 || number >= count) {
            throw new IndexOutOfBoundsException("there is nothing of that number");
        }
    }

    private static void checkRange(int value, int least, int most) {
        if (value < least || value > most) {
            throw new IllegalArgumentException("out of its range");
        }
    }

    private Unit unitAt(int number) {
        Unit found = number >= 0 && number < units.size() ? units.get(number) : null;
        if (found == null) {
            throw new IndexOutOfBoundsException("no such unit");
        }
        return found;
    }

    private Diagram diagramAt(int number) {
        Diagram found = number >= 0 && number < diagrams.size() ? diagrams.get(number) : null;
        if (found == null) {
            throw new IndexOutOfBoundsException("no such diagram");
        }
        return found;
    }

    private Row rowAt(int depot) {
        Row found = depot >= 0 && depot < rows.length ? rows[depot] : null;
        if (found == null) {
            throw new IndexOutOfBoundsException("no such depot");
        }
        return found;
    }

    private void readMorning() {
        morning.begin(units.size());
        for (int d = 0; d < diagrams.size(); d++) {
            Diagram diagram = diagramAt(d);
            int takers = 0;
            int homers = 0;
            for (int u = 0; u < units.size(); u++) {
                Unit unit = unitAt(u);
                if (diagram.isOpenTo(u) && rules.reasonAgainst(unit, diagram, now) == 0) {
                    takers |= 1 << u;
                }
                if (diagram.to == SHOP && rules.isSoon(unit)) {
                    homers |= 1 << u;
                }
            }
            morning.addDiagram(diagram.weight, takers, homers);
        }
    }

    private void leaveRows() {
        for (int d = 0; d < diagrams.size(); d++) {
            int u = morning.givenTo(d);
            past.record(d, now, u);
            if (u != NONE) {
                Row row = rowAt(unitAt(u).depot);
                shuntCount += row.behind(u);
                row.leave(u);
            }
        }
    }

    private void comeToDepots() {
        for (int d = 0; d < diagrams.size(); d++) {
            int u = morning.givenTo(d);
            if (u != NONE) {
                Diagram diagram = diagramAt(d);
                Unit unit = unitAt(u);
                unit.depot = diagram.to;
                unit.grow(diagram.km);
                rowAt(diagram.to).come(u);
            }
        }
    }

    /** A unit: where it is, what it ran, its wheels and its faults. */
    private static final class Unit {
        final int kmTold;
        final ArrayList<Fault> faults = new ArrayList<>();
        int depot;
        int km;
        private final int[] kmClocks = new int[EXAMS];
        private final int[] dayClocks = new int[EXAMS];
        private final int[] axles = new int[AXLES];

        Unit(int depot, int km) {
            this.depot = depot;
            this.km = km;
            this.kmTold = km;
            Arrays.fill(axles, NEW_AXLE);
        }

        int kmSince(int exam) {
            return exam >= 0 && exam < kmClocks.length ? kmClocks[exam] : 0;
        }

        int daysSince(int exam) {
            return exam >= 0 && exam < dayClocks.length ? dayClocks[exam] : 0;
        }

        int axleSize(int axle) {
            return axle >= 0 && axle < axles.length ? axles[axle] : 0;
        }

        void grow(int more) {
            int before = km;
            km += more;
            for (int k = 0; k < kmClocks.length; k++) {
                kmClocks[k] += more;
            }
            for (int a = 0; a < axles.length; a++) {
                axles[a] -= wear(a, km) - wear(a, before);
            }
        }

        /** The axle 0 wears faster than the others. */
        private static int wear(int axle, int km) {
            return axle == 0 ? km / 300 : km / 500;
        }

        void growOlder() {
            for (int k = 0; k < dayClocks.length; k++) {
                dayClocks[k]++;
            }
        }

        void beginAgain(int exam) {
            for (int k = 0; k <= exam && k < kmClocks.length && k < dayClocks.length; k++) {
                kmClocks[k] = 0;
                dayClocks[k] = 0;
            }
        }

        int greatestAxle() {
            int greatest = axleSize(0);
            for (int a = 1; a < axles.length; a++) {
                greatest = Math.max(greatest, axles[a]);
            }
            return greatest;
        }

        int leastAxle() {
            int least = axleSize(0);
            for (int a = 1; a < axles.length; a++) {
                least = Math.min(least, axles[a]);
            }
            return least;
        }

        int turn() {
            int size = axleSize(0) - depthOnAxle(0);
            for (int a = 1; a < axles.length; a++) {
                size = Math.min(size, axles[a] - depthOnAxle(a));
            }
            Arrays.fill(axles, size);
            dropFlats();
            return size;
        }

        private int depthOnAxle(int axle) {
            int depth = 0;
            for (int i = 0; i < faults.size(); i++) {
                Fault fault = faultAtPlace(i);
                if (fault.kind == FLAT && fault.where == axle) {
                    depth += fault.amount;
                }
            }
            return depth;
        }

        private void dropFlats() {
            // From the end on, so that a dropped one moves none that is still to be looked at.
            for (int i = faults.size() - 1; i >= 0; i--) {
                if (faultAtPlace(i).kind == FLAT) {
                    dropFault(i);
                }
            }
        }

        Fault faultAtPlace(int place) {
            Fault found = place >= 0 && place < faults.size() ? faults.get(place) : null;
            if (found == null) {
                throw new IndexOutOfBoundsException("no such fault");
            }
            return found;
        }

        void dropFault(int place) {
            if (place >= 0 && place < faults.size()) {
                faults.remove(place);
            }
        }
    }

    /** A diagram, as told, and the unit to which it is pinned. */
    private static final class Diagram {
        final int from;
        final int to;
        final int km;
        final int line;
        final int weight;
        int pinnedTo = NONE;

        Diagram(int from, int to, int km, int line, int weight) {
            this.from = from;
            this.to = to;
            this.km = km;
            this.line = line;
            this.weight = weight;
        }

        boolean isOpenTo(int unit) {
            return pinnedTo == NONE || pinnedTo == unit;
        }
    }

    /** A fault; its place and its amount are NONE if its kind has none. */
    private static final class Fault {
        final int kind;
        final int toldOn;
        final int where;
        final int amount;

        Fault(int kind, int toldOn, int where, int amount) {
            this.kind = kind;
            this.toldOn = toldOn;
            this.where = where;
            this.amount = amount;
        }

        boolean isGrave() {
            return kind == FLAT && amount > 4 || kind == ENGINE && amount > 50;
        }
    }

    /** What an exam asks for. */
    private static final class Exam {
        int limit;
        int tolerance;
        int days;

        Exam(int limit, int tolerance, int days) {
            this.limit = limit;
            this.tolerance = tolerance;
            this.days = days;
        }

        int bound() {
            return limit + limit * tolerance / 100;
        }

        boolean isOverdue(int kmSince, int daysSince) {
            return kmSince > bound() || daysSince > days;
        }

        boolean isNear(int kmSince) {
            return kmSince * 100 >= 80 * limit;
        }
    }

    /** What the list tells of a kind of faults. */
    private static final class Permit {
        int days = NONE;
        int worstLine = 0;

        boolean forbids(int age, int line) {
            return days == NONE || age > days || line > worstLine;
        }
    }

    /** The exams and the list, and by them who may run what. */
    private static final class Rules {
        private final Exam[] exams = {
            new Exam(1000, 10, 5), new Exam(3000, 10, 20), new Exam(9000, 10, 60)
        };
        private final Permit[] permits = {new Permit(), new Permit(), new Permit(), new Permit()};

        Exam examAt(int number) {
            Exam found = number >= 0 && number < exams.length ? exams[number] : null;
            if (found == null) {
                throw new IndexOutOfBoundsException("no such exam");
            }
            return found;
        }

        Permit permitAt(int kind) {
            Permit found = kind >= 0 && kind < permits.length ? permits[kind] : null;
            if (found == null) {
                throw new IndexOutOfBoundsException("no such kind");
            }
            return found;
        }

        /** 0 if the unit may run the diagram, otherwise the first reason against it. */
        int reasonAgainst(Unit unit, Diagram diagram, int today) {
            if (unit.depot != diagram.from) {
                return 1;
            }
            if (overdueBitsBehind(unit, diagram.km) != 0) {
                return 2;
            }
            if (listForbids(unit, diagram.line, today)) {
                return 3;
            }
            if (faultsAreGrave(unit)) {
                return 4;
            }
            return axlesAreBad(unit) ? 5 : 0;
        }

        boolean isSoon(Unit unit) {
            for (int k = 0; k < exams.length; k++) {
                if (examAt(k).isNear(unit.kmSince(k))) {
                    return true;
                }
            }
            return false;
        }

        int overdueBits(Unit unit) {
            return overdueBitsBehind(unit, 0);
        }

        /** The exams that would be overdue behind so many km more, by bits. */
        private int overdueBitsBehind(Unit unit, int more) {
            int bits = 0;
            for (int k = 0; k < exams.length; k++) {
                if (examAt(k).isOverdue(unit.kmSince(k) + more, unit.daysSince(k))) {
                    bits |= 1 << k;
                }
            }
            return bits;
        }

        private boolean listForbids(Unit unit, int line, int today) {
            for (int i = 0; i < unit.faults.size(); i++) {
                Fault fault = unit.faultAtPlace(i);
                if (permitAt(fault.kind).forbids(today - fault.toldOn, line)) {
                    return true;
                }
            }
            return false;
        }

        private static boolean faultsAreGrave(Unit unit) {
            int doors = 0;
            for (int i = 0; i < unit.faults.size(); i++) {
                Fault fault = unit.faultAtPlace(i);
                if (fault.isGrave()) {
                    return true;
                }
                if (fault.kind == DOOR) {
                    doors++;
                }
            }
            return doors >= 2;
        }

        private static boolean axlesAreBad(Unit unit) {
            int least = unit.leastAxle();
            return unit.greatestAxle() - least > 6 || least < 800;
        }
    }

    /** The units that stand at a depot; the last one is nearest the exit. */
    private static final class Row {
        private final int[] standing = new int[MOST_UNITS];
        private int count = 0;

        void come(int unit) {
            if (count >= 0 && count < standing.length) {
                standing[count] = unit;
                count++;
            }
        }

        void leave(int unit) {
            int kept = 0;
            for (int i = 0; i < count && i < standing.length; i++) {
                int other = standing[i];
                if (other != unit && kept < standing.length) {
                    standing[kept] = other;
                    kept++;
                }
            }
            count = kept;
        }

        /** How many stand between the unit and the exit. */
        int behind(int unit) {
            for (int i = 0; i < count && i < standing.length; i++) {
                if (standing[i] == unit) {
                    return count - 1 - i;
                }
            }
            return 0;
        }

        int fromExit(int place) {
            int i = count - 1 - place;
            return i >= 0 && i < standing.length ? standing[i] : NONE;
        }
    }

    /** Which unit ran which diagram on each day that went by. */
    private static final class Past {
        private final int[] runners = new int[MOST_DAYS * MOST_DIAGRAMS];

        Past() {
            Arrays.fill(runners, NONE);
        }

        void record(int diagram, int day, int unit) {
            int i = day * MOST_DIAGRAMS + diagram;
            if (i >= 0 && i < runners.length) {
                runners[i] = unit;
            }
        }

        int unitThatRan(int diagram, int day) {
            int i = day * MOST_DIAGRAMS + diagram;
            return i >= 0 && i < runners.length ? runners[i] : NONE;
        }

        int timesThatRan(int diagram, int unit) {
            int times = 0;
            for (int day = 0; day < MOST_DAYS; day++) {
                if (unitThatRan(diagram, day) == unit) {
                    times++;
                }
            }
            return times;
        }
    }

    /** A morning in plain numbers, and the best allocation for it, found in either of two ways. */
    private static final class Morning {
        private static final int SETS = 1 << MOST_UNITS;
        /** More than the greatest homing, so that no homing outweighs the least lack. */
        private static final int LACK_STEP = MOST_DIAGRAMS + 1;

        private final int[] weights = new int[MOST_DIAGRAMS];
        /** Of each diagram, by bits, the units that may be given to it. */
        private final int[] takers = new int[MOST_DIAGRAMS];
        /** Of each diagram, by bits, the units that count for the homing if they are given to it. */
        private final int[] homers = new int[MOST_DIAGRAMS];
        private final int[] given = new int[MOST_DIAGRAMS];
        private final int[] trial = new int[MOST_DIAGRAMS];
        /** The least cost of the diagrams from one on, for each set of units that are free. */
        private final int[] leastCosts = new int[(MOST_DIAGRAMS + 1) * SETS];
        private int unitCount = 0;
        private int diagramCount = 0;

        void begin(int units) {
            unitCount = Math.max(0, Math.min(units, MOST_UNITS));
            diagramCount = 0;
        }

        void addDiagram(int weight, int takersOfIt, int homersOfIt) {
            int d = diagramCount;
            if (d >= 0 && d < weights.length && d < takers.length && d < homers.length) {
                weights[d] = weight;
                takers[d] = takersOfIt;
                homers[d] = homersOfIt;
                diagramCount++;
            }
        }

        int givenTo(int diagram) {
            return at(given, diagram, NONE);
        }

        int lackOfGiven() {
            return lackOf(given);
        }

        private static int at(int[] row, int i, int otherwise) {
            return i >= 0 && i < row.length ? row[i] : otherwise;
        }

        private static void put(int[] row, int i, int value) {
            if (i >= 0 && i < row.length) {
                row[i] = value;
            }
        }

        private static boolean has(int bits, int unit) {
            return (bits >> unit & 1) == 1;
        }

        private int lackOf(int[] allocated) {
            int lack = 0;
            for (int d = 0; d < diagramCount; d++) {
                if (at(allocated, d, NONE) == NONE) {
                    lack += at(weights, d, 0);
                }
            }
            return lack;
        }

        private int homingOf(int[] allocated) {
            int homing = 0;
            for (int d = 0; d < diagramCount; d++) {
                int u = at(allocated, d, NONE);
                if (u != NONE && has(at(homers, d, 0), u)) {
                    homing++;
                }
            }
            return homing;
        }

        // -- part by part: what the diagrams behind one can cost at best depends on the free units
        // alone

        void allocateByParts() {
            fillLeastCosts();
            int free = (1 << unitCount) - 1;
            for (int d = 0; d < diagramCount; d++) {
                int u = lowestOfLeastCost(d, free);
                put(given, d, u);
                free = without(free, u);
            }
        }

        private void fillLeastCosts() {
            int sets = 1 << unitCount;
            for (int free = 0; free < sets; free++) {
                put(leastCosts, diagramCount * SETS + free, 0);
            }
            for (int d = diagramCount - 1; d >= 0; d--) {
                for (int free = 0; free < sets; free++) {
                    put(leastCosts, d * SETS + free, leastCostFrom(d, free));
                }
            }
        }

        private int leastCostFrom(int d, int free) {
            int least = costWith(d, NONE, free);
            int candidates = free & at(takers, d, 0);
            for (int u = 0; u < unitCount; u++) {
                if (has(candidates, u)) {
                    least = Math.min(least, costWith(d, u, free));
                }
            }
            return least;
        }

        private int lowestOfLeastCost(int d, int free) {
            int least = at(leastCosts, d * SETS + free, 0);
            int candidates = free & at(takers, d, 0);
            for (int u = 0; u < unitCount; u++) {
                if (has(candidates, u) && costWith(d, u, free) == least) {
                    return u;
                }
            }
            return NONE;
        }

        private int costWith(int d, int u, int free) {
            int behind = at(leastCosts, (d + 1) * SETS + without(free, u), 0);
            if (u == NONE) {
                return behind + at(weights, d, 0) * LACK_STEP;
            }
            return has(at(homers, d, 0), u) ? behind - 1 : behind;
        }

        private static int without(int free, int u) {
            return u == NONE ? free : free & ~(1 << u);
        }

        // -- by all allocations, the lowest first, so that of equally good ones the first is kept

        void allocateByAll() {
            Arrays.fill(trial, firstChoice());
            Arrays.fill(given, NONE);
            int all = howManyTrials();
            for (int i = 0; i < all; i++) {
                if (trialIsAllowed() && trialIsBetter()) {
                    System.arraycopy(trial, 0, given, 0, given.length);
                }
                stepTrial();
            }
        }

        private int howManyTrials() {
            int all = 1;
            for (int d = 0; d < diagramCount; d++) {
                all *= unitCount + 1;
            }
            return all;
        }

        /** The last diagram changes fastest, and none comes behind the highest unit. */
        private void stepTrial() {
            for (int d = diagramCount - 1; d >= 0; d--) {
                int u = at(trial, d, NONE);
                if (u != NONE) {
                    put(trial, d, u + 1 < unitCount ? u + 1 : NONE);
                    return;
                }
                put(trial, d, firstChoice());
            }
        }

        private int firstChoice() {
            return unitCount == 0 ? NONE : 0;
        }

        private boolean trialIsAllowed() {
            int used = 0;
            for (int d = 0; d < diagramCount; d++) {
                int u = at(trial, d, NONE);
                if (u != NONE) {
                    if (has(used, u) || !has(at(takers, d, 0), u)) {
                        return false;
                    }
                    used |= 1 << u;
                }
            }
            return true;
        }

        private boolean trialIsBetter() {
            int lack = lackOf(trial);
            int best = lackOf(given);
            return lack < best || lack == best && homingOf(trial) > homingOf(given);
        }
    }
}
