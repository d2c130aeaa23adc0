/** Checks of what is due from a land: many answers in one call, refused calls, calls that change nothing. */
final class Due {
    static final Class<IndexOutOfBoundsException> INDEX = IndexOutOfBoundsException.class;
    static final Class<IllegalStateException> STATE = IllegalStateException.class;
    static final Class<IllegalArgumentException> ARGUMENT = IllegalArgumentException.class;
    static final int LEAST = Integer.MIN_VALUE;
    static final int GREATEST = Integer.MAX_VALUE;

    /** A call with one number that is tried at several values. */
    interface CallOf {
        long answer(int number);
    }

    private Due() {
    }

    /** Checks a call that throws: the exception, and that nothing is changed. */
    static void refused(String what, HutRings land, Class<? extends RuntimeException> want, Check.Call call) {
        String before = Lands.all(land);
        Check.dueThrow(what, want, call);
        Check.same(what + " changes nothing", before, Lands.all(land));
    }

    /** Checks that the call is refused for all numbers next to 0 to end - 1, and for the far ones. */
    static void refusedOutside(String what, HutRings land, int end, CallOf call) {
        // 1 << 8 and 1 << 16, and below 0 too: what is cut to a byte or a short would come in again.
        int[] numbers = {-1, -2, end, end + 1, LEAST, LEAST + 1, GREATEST, GREATEST - 1,
            1 << 8, 1 << 16, -(1 << 8), -(1 << 16), -end};
        for (int number : numbers) {
            if (number < 0 || number >= end) {
                refused(what + " " + number, land, INDEX, () -> call.answer(number));
            }
        }
    }

    static void kept(String what, HutRings land, long want, Check.Call call) {
        String before = Lands.all(land);
        Check.due(what, want, call);
        Check.same(what + " changes nothing", before, Lands.all(land));
    }

    static void mean(String what, double want, HutRings land) {
        Check.due(what, Double.doubleToLongBits(want), () -> Double.doubleToLongBits(land.mean()));
    }

    static void counts(String what, HutRings land, int... want) {
        for (int i = 0; i < want.length; i++) {
            int which = i;
            Check.due(what + ": count(" + which + ")", want[which], () -> land.count(which));
        }
    }

    /** What told() tells of the keepers 0, 1, .. */
    static void told(String text, HutRings land, int what, int... want) {
        for (int i = 0; i < want.length; i++) {
            int keeper = i;
            Check.due(text + ": told(" + keeper + ", " + what + ")", want[keeper], () -> land.told(keeper, what));
        }
    }

    static void list(String text, HutRings land, int keeper, int... want) {
        Check.due(text + ": length", want.length, () -> land.told(keeper, 1));
        for (int i = 0; i < want.length; i++) {
            int place = i;
            Check.due(text + ": list(" + keeper + ", " + place + ")", want[place], () -> land.list(keeper, place));
        }
    }

    /** At whom the keeper points in the rounds 1, 2, .. */
    static void points(String text, HutRings land, int keeper, int... want) {
        for (int i = 0; i < want.length; i++) {
            int round = i + 1;
            Check.due(text + ": points(" + keeper + ", " + round + ")", want[i], () -> land.points(keeper, round));
        }
    }
}
