import java.util.Set;
import java.util.TreeSet;
import java.util.function.Consumer;
import java.util.function.Supplier;
import java.util.function.ToIntBiFunction;
import java.util.function.ToIntFunction;

/** Counts wrong answers, prints each, and ends a test's run with the exit code that is due. */
final class Check {
    private int checks = 0;
    private int wrong = 0;

    void same(String what, long got, long want) {
        checks++;
        if (got != want) {
            wrong(what + " answered " + got + ", due is " + want);
        }
    }

    void same(String what, String got, String want) {
        checks++;
        if (!got.equals(want)) {
            wrong(what + ":\n  answered " + got + "\n  due is   " + want);
        }
    }

    void holds(String what, boolean isSo) {
        checks++;
        if (!isSo) {
            wrong(what);
        }
    }

    void wrong(String text) {
        wrong++;
        System.out.println("wrong: " + text);
    }

    /**
     * The call throws exactly that exception, and the object answers all questions afterwards, and a
     * day later, as one for which the call was never made.
     */
    void refused(
            String what,
            Class<? extends RuntimeException> due,
            Supplier<Stablingroad> made,
            ToIntFunction<Stablingroad> call) {
        Supplier<Stablingroad> called = () -> {
            Stablingroad x = made.get();
            same(what, outcome(() -> call.applyAsInt(x)), due.getSimpleName());
            return x;
        };
        same("all that is seen after " + what, Seen.all(called.get()), Seen.all(made.get()));
        same("and a day later", Seen.aDayLater(called.get()), Seen.aDayLater(made.get()));
    }

    /**
     * The call answers at both ends of the range; with the numbers beside them, and the least and the
     * greatest of an int, it is refused. A range whose most is less than its least has no numbers.
     */
    void range(
            String what,
            Class<? extends RuntimeException> due,
            Supplier<Stablingroad> made,
            int least,
            int most,
            ToIntBiFunction<Stablingroad, Integer> call) {
        Set<Integer> numbers = new TreeSet<>(
                Set.of(Integer.MIN_VALUE, Integer.MAX_VALUE));
        for (int n : new int[] {least - 1, least, most, most + 1}) {
            numbers.add(n);
        }
        for (int n : numbers) {
            String told = what + " " + n;
            if (least <= n && n <= most) {
                String got = outcome(() -> call.applyAsInt(made.get(), n));
                holds(told + " answered " + got, !got.contains("Exception"));
            } else {
                refused(told, due, made, y -> call.applyAsInt(y, n));
            }
        }
    }

    /** Whatever the number is, the call answers the same, and leaves the same behind. */
    void anyNumber(
            String what, Supplier<Stablingroad> made, ToIntBiFunction<Stablingroad, Integer> call) {
        Stablingroad plain = made.get();
        String due = call.applyAsInt(plain, 0) + " " + Seen.all(plain);
        for (int n : new int[] {Integer.MIN_VALUE, -2, -1, 1, 4, 21, 101, Integer.MAX_VALUE}) {
            Stablingroad x = made.get();
            String answer = outcome(() -> call.applyAsInt(x, n));
            same(what + " " + n, answer + " " + Seen.all(x), due);
        }
    }

    static String outcome(Supplier<Integer> call) {
        try {
            return String.valueOf(call.get());
        } catch (RuntimeException thrown) {
            return nameOf(thrown, Stablingroad.class);
        }
    }

    /**
     * An exception's name; another one if it was not thrown by that class or one inside it, as then
     * the machine or the library threw it.
     */
    static String nameOf(Throwable thrown, Class<?> thrower) {
        StackTraceElement[] calls = thrown.getStackTrace();
        String by = calls.length == 0 ? "the machine" : calls[0].getClassName();
        boolean isOwn = by.equals(thrower.getName()) || by.startsWith(thrower.getName() + "$");
        String name = thrown.getClass().getSimpleName();
        return isOwn ? name : name + " thrown by " + by;
    }

    static Supplier<Stablingroad> after(Consumer<Stablingroad> calls) {
        return after(Stablingroad::new, calls);
    }

    static Supplier<Stablingroad> after(
            Supplier<Stablingroad> made, Consumer<Stablingroad> calls) {
        return () -> {
            Stablingroad x = made.get();
            calls.accept(x);
            return x;
        };
    }

    void end(String name) {
        System.out.println(name + ": " + checks + " checks, " + wrong + " wrong");
        if (wrong > 0) {
            System.exit(1);
        }
    }
}
