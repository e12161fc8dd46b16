/** Counts what the tests of one main method find; every wrong answer is printed. */
final class Checks {
    interface Call {
        long answer();
    }

    static final String INDEX = "throws.IndexOutOfBoundsException";
    static final String ARGUMENT = "throws.IllegalArgumentException";
    static final String STATE = "throws.IllegalStateException";

    private static int checked = 0;
    private static int wrong = 0;

    private Checks() {
    }

    /** What a call answers, as text: its number, or the name of what it throws. */
    static String told(Call call) {
        try {
            return Long.toString(call.answer());
        } catch (RuntimeException e) {
            return "throws." + e.getClass().getSimpleName();
        }
    }

    static void due(String name, Call call, long want) {
        same(name, told(call), Long.toString(want));
    }

    static void thrown(String name, Call call, String want) {
        same(name, told(call), want);
    }

    static void same(String name, String got, String want) {
        checked++;
        if (!got.equals(want)) {
            wrong++;
            if (wrong <= 50) {
                System.out.println(name + " answered " + got + ", due is " + want);
            }
        }
    }

    static void end(String name) {
        System.out.println(name + ": " + checked + " checks, " + wrong + " wrong");
        if (wrong != 0 || checked == 0) {
            System.exit(1);
        }
    }
}
