/** Counts the answers that are not the ones that are due, and prints each of them. */
final class Check {
    /** One call of the class; a boolean answers 1 or 0, a double its bits. */
    interface Call {
        long answer();
    }

    private static int wrong = 0;
    private static int made = 0;
    private static int sentences = 0;
    private static String about = "";

    private Check() {
    }

    /** Runs the test of one sentence of the document: whatever goes wrong in it is printed with that sentence. */
    static void sentence(String promise, String text, Runnable test) {
        sentences++;
        about = promise + ": \"" + text + "\": ";
        try {
            test.run();
        } catch (RuntimeException e) {
            same("a call of the test itself", "an answer", "throws " + e);
        }
        about = "";
    }

    /** What a call did: "= 5" or "throws IllegalStateException". */
    static String outcome(Call call) {
        try {
            return "= " + call.answer();
        } catch (RuntimeException e) {
            // The exact class: what the machine throws is a class below the promised one.
            return "throws " + e.getClass().getName().replace("java.lang.", "");
        }
    }

    static void due(String what, long want, Call call) {
        same(what, "= " + want, outcome(call));
    }

    static void dueThrow(String what, Class<? extends RuntimeException> want, Call call) {
        same(what, "throws " + want.getName().replace("java.lang.", ""), outcome(call));
    }

    static void same(String what, String want, String got) {
        made++;
        if (!want.equals(got)) {
            wrong++;
            System.out.println(about + what + ": got " + got + ", due is " + want);
        }
    }

    static void end(String test) {
        String of = sentences == 0 ? "" : " of " + sentences + " sentences";
        System.out.println(test + ": " + made + " checks" + of + ", " + wrong + " wrong");
        if (wrong != 0) {
            System.exit(1);
        }
    }
}
