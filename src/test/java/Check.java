import java.util.function.Consumer;
import java.util.function.Supplier;
import java.util.function.ToIntFunction;

/** Counts wrong answers, prints each, and ends a test's run with the exit code that is due. */
final class Check {
    private int checks = 0;
    private int wrong = 0;

    void same(String what, long got, long want) {
        checks++;
        if (got != want) {
            wrong(what + " answered " + got + ", due is " + want);
        }
    }

    void same(String what, String got, String want) {
        checks++;
        if (!got.equals(want)) {
            wrong(what + ":\n  answered " + got + "\n  due is   " + want);
        }
    }

    void holds(String what, boolean isSo) {
        checks++;
        if (!isSo) {
            wrong(what);
        }
    }

    void wrong(String text) {
        wrong++;
        System.out.println("wrong: " + text);
    }

    /**
     * The call throws exactly that exception, and the object answers all questions afterwards as one
     * for which the call was never made.
     */
    void refused(
            String what,
            Class<? extends RuntimeException> due,
            Supplier<Stablingroad> made,
            ToIntFunction<Stablingroad> call) {
        Stablingroad called = made.get();
        same(what, outcome(() -> call.applyAsInt(called)), due.getSimpleName());
        same("all that is seen after " + what, Seen.all(called), Seen.all(made.get()));
    }

    static String outcome(Supplier<Integer> call) {
        try {
            return String.valueOf(call.get());
        } catch (RuntimeException thrown) {
            return thrown.getClass().getSimpleName();
        }
    }

    static Supplier<Stablingroad> after(Consumer<Stablingroad> calls) {
        return () -> {
            Stablingroad made = new Stablingroad();
            calls.accept(made);
            return made;
        };
    }

    void end(String name) {
        System.out.println(name + ": " + checks + " checks, " + wrong + " wrong");
        if (wrong > 0) {
            System.exit(1);
        }
    }
}
