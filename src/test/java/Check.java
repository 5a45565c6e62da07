/** What the tests share: it counts what is not as it is due, and tells it. */
final class Check {
    interface Call {
        double answer();
    }

    private static int checks = 0;
    private static int wrong = 0;

    private Check() {
    }

    static void same(String what, double got, double want) {
        checks++;
        if (got != want) {
            tell(what + " answered " + got + ", due is " + want);
        }
    }

    static void same(String what, long got, long want) {
        checks++;
        if (got != want) {
            tell(what + " answered " + got + ", due is " + want);
        }
    }

    static void same(String what, String got, String want) {
        checks++;
        if (!got.equals(want)) {
            tell(what + " answered " + got + ", due is " + want);
        }
    }

    static void isTrue(String what, boolean got) {
        checks++;
        if (!got) {
            tell(what + " does not hold");
        }
    }

    /** The call throws exactly this exception, and the object's digest stays. */
    static void refused(String what, OrganCensus x, Class<?> due, Call call) {
        long before = x.digest();
        same(what, outcome(call), due.getSimpleName());
        same("digest after " + what, x.digest(), before);
    }

    /** The answer as a text, or the simple name of what the call throws. */
    static String outcome(Call call) {
        try {
            return String.valueOf(call.answer());
        } catch (Throwable e) {
            return e.getClass().getSimpleName();
        }
    }

    static void end(String test) {
        System.out.println(test + ": " + checks + " checks, " + wrong + " wrong");
        if (wrong != 0) {
            System.exit(1);
        }
    }

    private static void tell(String line) {
        wrong++;
        if (wrong <= 40) {
            System.out.println(line);
        }
    }
}
