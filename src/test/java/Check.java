import java.util.List;
import java.util.function.Supplier;

/** What the tests share: it counts what is not as it is due, and tells it. */
final class Check {
    static final Class<?> INDEX = IndexOutOfBoundsException.class;
    static final Class<?> ARGUMENT = IllegalArgumentException.class;
    static final Class<?> STATE = IllegalStateException.class;

    interface Call {
        double answer();
    }

    interface CallOn {
        double answer(OrganCensus x);
    }

    private static int checks = 0;
    private static int wrong = 0;
    private static String about = "";

    private Check() {
    }

    /** What the next checks are about: it stands before each wrong answer that is told. */
    static void about(String words) {
        about = words;
    }

    static int checks() {
        return checks;
    }

    static void same(String what, double got, double want) {
        checks++;
        if (got != want) {
            tell(what + " answered " + got + ", due is " + want);
        }
    }

    static void same(String what, long got, long want) {
        checks++;
        if (got != want) {
            tell(what + " answered " + got + ", due is " + want);
        }
    }

    static void same(String what, String got, String want) {
        checks++;
        if (!got.equals(want)) {
            tell(what + " answered " + got + ", due is " + want);
        }
    }

    static void isTrue(String what, boolean got) {
        checks++;
        if (!got) {
            tell(what + " does not hold");
        }
    }

    /** The call throws exactly this exception, and nothing that the town answers later shows that it was called. */
    static void refused(String what, Supplier<OrganCensus> town, Class<?> due, CallOn call) {
        OrganCensus x = town.get();
        same(what, outcome(() -> call.answer(x)), due.getSimpleName());
        alike("after " + what, x, town.get());
    }

    /** The call throws nothing and answers this. */
    static void taken(String what, Supplier<OrganCensus> town, double due, CallOn call) {
        OrganCensus x = town.get();
        same(what, outcome(() -> call.answer(x)), String.valueOf(due));
    }

    /** Both answer alike, now and in what comes; they are used up by it. */
    static void alike(String what, OrganCensus x, OrganCensus y) {
        checks++;
        List<String> got = Story.of(x);
        List<String> want = Story.of(y);
        for (int i = 0; i < Math.max(got.size(), want.size()); i++) {
            String one = i < got.size() ? got.get(i) : "the end";
            String other = i < want.size() ? want.get(i) : "the end";
            if (!one.equals(other)) {
                tell(what + ": " + one + ", due is " + other);
                return;
            }
        }
    }

    /** The answer as a text, or the simple name of what the call throws. */
    static String outcome(Call call) {
        try {
            return String.valueOf(call.answer());
        } catch (Throwable e) {
            return e.getClass().getSimpleName();
        }
    }

    /** The numbers next to first and last on their outer sides, and the farthest ones. */
    static int[] outside(int first, int last) {
        return new int[] {first - 1, last + 1, Integer.MIN_VALUE, Integer.MAX_VALUE};
    }

    static void end(String test) {
        System.out.println(test + ": " + checks + " checks, " + wrong + " wrong");
        if (wrong != 0) {
            System.exit(1);
        }
    }

    private static void tell(String line) {
        wrong++;
        if (wrong <= 40) {
            System.out.println(about + line);
        }
    }
}
