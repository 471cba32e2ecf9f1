import java.lang.reflect.InvocationTargetException;
import java.lang.reflect.Method;
import java.util.Arrays;
import java.util.HashMap;
import java.util.Map;
import java.util.TreeMap;

/**
 * Long runs of calls, well and badly chosen ones, made on the class and on the model alike: every
 * answer must be the same. The runs are the same each time.
 */
public final class ModelTest {
    private static final int RUNS = 2500;
    private static final int CALLS = 512;

    /** How often a call is made, beside how often the others are. */
    private static final Map<String, Integer> OFTEN = Map.ofEntries(
            Map.entry("unit", 3), Map.entry("diagram", 3), Map.entry("exam", 3),
            Map.entry("list", 5), Map.entry("fault", 8), Map.entry("pin", 6),
            Map.entry("whyNot", 9), Map.entry("allocation", 12), Map.entry("allocationAnew", 12),
            Map.entry("lack", 4), Map.entry("day", 14), Map.entry("examine", 8),
            Map.entry("lathe", 6), Map.entry("mend", 4), Map.entry("today", 1),
            Map.entry("about", 9), Map.entry("clock", 3), Map.entry("axle", 3),
            Map.entry("faultAt", 4), Map.entry("stands", 4), Map.entry("shunts", 3),
            Map.entry("ran", 4), Map.entry("kmAnew", 2));

    /** Units and diagrams come first, as without them the other calls have little to tell of. */
    private static final String[] BEGINNING = {
        "unit", "unit", "diagram", "diagram", "unit", "unit", "diagram", "diagram", "unit", "unit",
        "diagram", "diagram", "list", "list", "list", "list", "exam", "exam", "exam"
    };

    private static final Check check = new Check();
    private static final Method[] methods = Stablingroad.class.getDeclaredMethods();
    private static final Map<String, Method> faces = new TreeMap<>();
    private static final Map<String, Method> models = new HashMap<>();
    private static final Map<String, Integer> answers = new TreeMap<>();

    private long seed;
    /** One number in so many is a bad one. */
    private final int badly;
    /** How many calls of a hundred let a day go by, beside those that do so by chance. */
    private final int daily;
    /** The highest depot that is used. */
    private final int depots;
    /** 0 for exams that are due soon, 2 for such as never are. */
    private final int examsFar;
    private final int mostDiagrams;
    private int units = 0;
    private int diagrams = 0;

    private ModelTest(int run) {
        seed = run * 7919L + 17;
        badly = run % 4 == 0 ? 6 : 60;
        daily = run % 5 == 0 ? 45 : 0;
        depots = run % 3;
        examsFar = run / 2 % 3;
        mostDiagrams = run % 7 < 4 ? 4 : 6;
    }

    public static void main(String[] args) throws ReflectiveOperationException {
        for (Method method : methods) {
            if (OFTEN.containsKey(method.getName())) {
                faces.put(method.getName(), method);
            }
        }
        for (Method method : Model.class.getDeclaredMethods()) {
            models.put(method.getName(), method);
        }
        check.same("methods of the face", faces.size(), OFTEN.size());
        boolean allRight = true;
        for (int run = 0; run < RUNS && allRight; run++) {
            allRight = new ModelTest(run).isRight(run);
        }
        everyAnswerWasMet();
        check.end("ModelTest");
    }

    private int below(int bound) {
        seed = seed * 6364136223846793005L + 1442695040888963407L;
        return (int) ((seed >>> 33) % bound);
    }

    private int from(int least, int most) {
        return least + below(most - least + 1);
    }

    private boolean isRight(int run) throws ReflectiveOperationException {
        Stablingroad x = new Stablingroad();
        Model model = new Model();
        StringBuilder told = new StringBuilder();
        for (int i = 0; i < CALLS; i++) {
            String name = i < BEGINNING.length ? BEGINNING[i] : anyName();
            Object[] args = args(name);
            String got = outcome(faces.get(name), x, args);
            String want = outcome(models.get(name), model, args);
            note(name, args, got);
            units += name.equals("unit") && Character.isDigit(got.charAt(0)) ? 1 : 0;
            diagrams += name.equals("diagram") && Character.isDigit(got.charAt(0)) ? 1 : 0;
            told.append(name).append(Arrays.toString(args)).append(' ').append(got);
            told.append('\n');
            check.holds("call", got.equals(want));
            if (!got.equals(want)) {
                System.out.println("run " + run + ", the call " + i + ", due is " + want);
                System.out.println(told);
                return false;
            }
        }
        return true;
    }

    private String anyName() {
        if (below(100) < daily) {
            return "day";
        }
        int all = OFTEN.values().stream().mapToInt(Integer::intValue).sum();
        int at = below(all);
        for (String name : faces.keySet()) {
            at -= OFTEN.get(name);
            if (at < 0) {
                return name;
            }
        }
        throw new IllegalStateException();
    }

    private static String outcome(Method method, Object x, Object[] args)
            throws ReflectiveOperationException {
        try {
            return String.valueOf(method.invoke(x, args));
        } catch (InvocationTargetException thrown) {
            return Check.nameOf(thrown.getCause(), x.getClass());
        }
    }

    private static void note(String name, Object[] args, String got) {
        boolean isOverdue = name.equals("about") && args[1].equals(5);
        answers.merge((isOverdue ? "overdue" : name) + " " + got, 1, Integer::sum);
    }

    private static void everyAnswerWasMet() {
        for (int reason = 0; reason < 6; reason++) {
            met("whyNot " + reason, 500);
        }
        for (int u = -1; u < 6; u++) {
            met("allocation " + u, 1000);
            met("allocationAnew " + u, 1000);
            met("ran " + u, 200);
        }
        for (int bits = 0; bits < 8; bits++) {
            met("overdue " + bits, 50);
        }
        for (String name : OFTEN.keySet()) {
            for (Class<?> thrown : faces.get(name).getExceptionTypes()) {
                met(name + " " + thrown.getSimpleName(), 20);
            }
        }
    }

    private static void met(String answer, int due) {
        int times = answers.getOrDefault(answer, 0);
        check.holds(answer + " was met only " + times + " times", times >= due);
    }

    /** Mostly a good number, now and then one beside the range, or one far from it. */
    private int near(int least, int most) {
        if (below(badly) != 0) {
            return from(least, most);
        }
        int[] others = {
            least - 1, most + 1, least, most, Integer.MIN_VALUE, Integer.MAX_VALUE, -1
        };
        return others[below(others.length)];
    }

    private int aUnit() {
        return near(0, Math.max(0, units - 1));
    }

    private int aDiagram() {
        return near(0, Math.max(0, diagrams - 1));
    }

    private Object[] args(String name) {
        switch (name) {
            case "unit":
                return new Object[] {near(0, depots), near(0, 1000000)};
            case "diagram":
                return diagramArgs();
            case "exam":
                return examArgs();
            case "list":
                return listArgs();
            case "fault":
                return faultArgs();
            case "pin":
                return new Object[] {aDiagram(), below(3) == 0 ? aUnit() : -1};
            case "whyNot":
                return new Object[] {aUnit(), aDiagram()};
            case "allocation":
            case "allocationAnew":
                return new Object[] {aDiagram()};
            case "examine":
                return new Object[] {aUnit(), near(0, 2)};
            case "lathe":
            case "kmAnew":
                return new Object[] {aUnit()};
            case "mend":
                return new Object[] {aUnit(), near(0, below(3))};
            case "about":
                return new Object[] {aUnit(), near(0, 5)};
            case "clock":
                return new Object[] {aUnit(), near(0, 2), below(2) == 0};
            case "axle":
                return new Object[] {aUnit(), near(0, 3)};
            case "faultAt":
                return new Object[] {aUnit(), near(0, below(3)), near(0, 3)};
            case "stands":
                return new Object[] {near(0, 2), near(0, 6)};
            case "ran":
                return new Object[] {aDiagram(), near(0, below(80))};
            default:
                return new Object[] {};
        }
    }

    private Object[] diagramArgs() {
        // Four at most in some runs, so that all allocations can be asked for.
        int from = diagrams == mostDiagrams && mostDiagrams < 6 ? 7 : near(0, depots);
        int to = below(2) == 0 ? 0 : near(0, depots);
        int weight = below(2) == 0 ? near(1, 3) : near(1, 100);
        int km = below(3) == 0 ? near(1, 2000) : near(1, 300);
        return new Object[] {from, to, km, near(0, 2), weight};
    }

    private Object[] examArgs() {
        int limit = near(examsFar == 0 ? 100 : examsFar == 1 ? 1000 : 50000, examsFar == 0 ? 3000 : 100000);
        int days = near(below(9) == 0 ? 0 : examsFar == 0 ? 10 : 100, examsFar == 0 ? 40 : 400);
        return new Object[] {near(0, 2), limit, near(0, 20), days};
    }

    private Object[] listArgs() {
        int days = below(5) == 0 ? near(-1, 3) : near(10, 30);
        return new Object[] {near(0, 3), days, below(3) == 0 ? near(0, 2) : 2};
    }

    private Object[] faultArgs() {
        int kind = near(0, 3);
        boolean isGrave = below(4) == 0;
        int amount = kind == 0 ? near(1, isGrave ? 20 : 4) : near(1, isGrave ? 100 : 50);
        return new Object[] {aUnit(), kind, near(0, 3), amount};
    }
}
