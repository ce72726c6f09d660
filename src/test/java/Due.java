import java.util.function.Consumer;

/** Counts and prints the calls whose answers are not the ones that are due. */
final class Due {
    interface Answer {
        long of();
    }

    interface Truth {
        boolean of();
    }

    static final Class<?> NO_SUCH = IndexOutOfBoundsException.class;
    static final Class<?> OUT_OF_RANGE = IllegalArgumentException.class;
    static final Class<?> NOT_NOW = IllegalStateException.class;

    private final String test;
    private int calls = 0;
    private int wrong = 0;

    Due(String test) {
        this.test = test;
    }

    void is(String call, long due, Answer answer) {
        calls++;
        try {
            long got = answer.of();
            if (got != due) {
                tellWrong(call, String.valueOf(got), String.valueOf(due));
            }
        } catch (RuntimeException e) {
            tellWrong(call, e.getClass().getName(), String.valueOf(due));
        }
    }

    void holds(String call, boolean due, Truth truth) {
        is(call, due ? 1 : 0, () -> truth.of() ? 1 : 0);
    }

    void same(String call, String due, String got) {
        calls++;
        if (!got.equals(due)) {
            tellWrong(call, got, due);
        }
    }

    /** The call ends without an exception. */
    void ends(String call, Runnable run) {
        is(call, 0, () -> {
            run.run();
            return 0;
        });
    }

    /** The call throws just this exception, none of a class below it, by a throw of the program's own. */
    void fails(String call, Class<?> due, Runnable run) {
        calls++;
        try {
            run.run();
            tellWrong(call, "without an exception", due.getName());
        } catch (RuntimeException e) {
            if (e.getClass() != due || !isThrownByPanelry(e)) {
                tellWrong(call, e + " of " + e.getStackTrace()[0], due.getName() + " of Panelry");
            }
        }
    }

    private static boolean isThrownByPanelry(RuntimeException e) {
        String thrower = e.getStackTrace()[0].getClassName();
        return thrower.equals("Panelry") || thrower.startsWith("Panelry$");
    }

    /** The call throws just this exception and changes nothing of Sample.house(). */
    void refuses(String call, Class<?> due, Consumer<Panelry> run) {
        for (int part = 0; part < Answers.PARTS; part++) {
            Panelry x = Sample.house();
            fails(call, due, () -> run.accept(x));
            same("what " + call + " leaves", Answers.of(Sample.house(), part), Answers.of(x, part));
        }
    }

    /** Ends the program: with the code 1 if an answer was wrong. */
    void end() {
        System.out.println(test + ": " + calls + " answers, " + wrong + " not as due");
        if (wrong != 0 || calls == 0) {
            System.exit(1);
        }
    }

    private void tellWrong(String call, String got, String due) {
        wrong++;
        System.out.println(test + ": " + call + " answered " + got + ", due is " + due);
    }
}
