/** Counts the answers that are not the ones that are due, and prints each of them. */
final class Check {
    /** One call of the class; a boolean answers 1 or 0, a double its bits. */
    interface Call {
        long answer();
    }

    private static int wrong = 0;
    private static int made = 0;

    private Check() {
    }

    /** What a call did: "= 5" or "throws IllegalStateException". */
    static String outcome(Call call) {
        try {
            return "= " + call.answer();
        } catch (RuntimeException e) {
            // The exact class: what the machine throws is a class below the promised one.
            return "throws " + e.getClass().getName().replace("java.lang.", "");
        }
    }

    static void due(String what, long want, Call call) {
        same(what, "= " + want, outcome(call));
    }

    static void dueThrow(String what, Class<? extends RuntimeException> want, Call call) {
        same(what, "throws " + want.getName().replace("java.lang.", ""), outcome(call));
    }

    static void same(String what, String want, String got) {
        made++;
        if (!want.equals(got)) {
            wrong++;
            System.out.println(what + ": got " + got + ", due is " + want);
        }
    }

    static void end(String test) {
        System.out.println(test + ": " + made + " checks, " + wrong + " wrong");
        if (wrong != 0) {
            System.exit(1);
        }
    }
}
