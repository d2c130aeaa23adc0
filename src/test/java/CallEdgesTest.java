import java.util.ArrayList;
import java.util.List;

/** Each sentence of the document on calls of every kind that names a boundary case. */
public final class CallEdgesTest {
    private CallEdgesTest() {
    }

    public static void main(String[] args) {
        Check.sentence("Promises 2 to 12, Terms",
                "A method that throws an exception changes nothing.",
                CallEdgesTest::refusedCallsChangeNothing);
        Check.sentence("Promises 2 to 12, Terms",
                "A method that throws an exception changes nothing.",
                CallEdgesTest::refusedCallsChangeNothingLater);
        Check.sentence("Promise 3: wish, Terms",
                "If several exceptions apply, the one that is named first is thrown.",
                CallEdgesTest::promise3NamedFirst);
        Check.sentence("Promise 7: points, Terms",
                "If several exceptions apply, the one that is named first is thrown.",
                CallEdgesTest::promise7NamedFirst);
        Check.sentence("Promise 11: without, Terms",
                "If several exceptions apply, the one that is named first is thrown.",
                CallEdgesTest::promise11NamedFirst);
        Check.sentence("Promises 1 to 15, What it is",
                "An object is used for at most 512 calls after it has been made",
                CallEdgesTest::lastOf512Calls);
        Check.end("CallEdgesTest");
    }

    /** A wrong call of each kind and for each reason. */
    private static List<Check.Call> wrongCalls(HutRings land) {
        int end = land.count(0);
        List<Check.Call> calls = new ArrayList<>();
        calls.add(() -> land.wish(end, 0, 0));
        calls.add(() -> land.wish(0, 0, end));
        calls.add(() -> land.wish(0, land.told(0, 1) + 1, 1));
        calls.add(() -> land.wish(0, -1, 1));
        calls.add(() -> land.wish(0, 0, land.told(0, 0)));
        calls.add(() -> land.wish(0, 0, land.list(0, 0)));
        calls.add(() -> land.drop(end, 0));
        calls.add(() -> land.drop(0, land.told(0, 1)));
        calls.add(() -> land.drop(0, -1));
        calls.add(() -> land.list(end, 0));
        calls.add(() -> land.list(0, land.told(0, 1)));
        calls.add(() -> land.told(end, 0));
        calls.add(() -> land.told(0, 6));
        calls.add(() -> land.points(end, 1));
        calls.add(() -> land.points(0, 0));
        calls.add(() -> land.rank(end, 0));
        calls.add(() -> land.rank(0, end));
        calls.add(() -> land.count(6));
        calls.add(() -> land.swaps(0, end) ? 1 : 0);
        calls.add(() -> land.swaps(end, 0) ? 1 : 0);
        calls.add(() -> land.without(end, 0));
        calls.add(() -> land.without(0, end));
        calls.add(() -> land.without(0, 0));
        calls.add(() -> land.feign(end, 0));
        calls.add(() -> land.feign(0, end));
        if (end == 10) {
            calls.add(land::come);
        }
        return calls;
    }

    private static void makeWrongCalls(HutRings land) {
        List<Check.Call> calls = wrongCalls(land);
        for (int i = 0; i < calls.size(); i++) {
            String outcome = Check.outcome(calls.get(i));
            Check.same("wrong call " + i + " throws: " + outcome, "true", "" + outcome.startsWith("throws "));
        }
    }

    private static void refusedCallsChangeNothing() {
        HutRings[] lands = {Lands.six(), Lands.full(), Lands.ringOfTen()};
        for (HutRings land : lands) {
            List<Check.Call> calls = wrongCalls(land);
            for (int i = 0; i < calls.size(); i++) {
                String before = Lands.all(land);
                String outcome = Check.outcome(calls.get(i));
                Check.same("call " + i + " throws: " + outcome, "true", "" + outcome.startsWith("throws "));
                Check.same("call " + i, before, Lands.all(land));
            }
        }
    }

    /** What cannot be asked for at once might show later: a twin land goes the same way without wrong calls. */
    private static void refusedCallsChangeNothingLater() {
        HutRings land = Lands.six();
        HutRings twin = Lands.six();
        makeWrongCalls(land);
        Check.same("come", Check.outcome(twin::come), Check.outcome(land::come));
        makeWrongCalls(land);
        Check.same("wish", Check.outcome(() -> twin.wish(6, 0, 3)), Check.outcome(() -> land.wish(6, 0, 3)));
        Check.same("wish", Check.outcome(() -> twin.wish(3, 0, 6)), Check.outcome(() -> land.wish(3, 0, 6)));
        makeWrongCalls(land);
        Check.same("drop", Check.outcome(() -> twin.drop(4, 0)), Check.outcome(() -> land.drop(4, 0)));
        makeWrongCalls(land);
        Check.same("without", Check.outcome(() -> twin.without(3, 6)), Check.outcome(() -> land.without(3, 6)));
        makeWrongCalls(land);
        Check.same("feign", Check.outcome(() -> twin.feign(5, 6)), Check.outcome(() -> land.feign(5, 6)));
        Check.same("ahead of the move", Lands.all(twin), Lands.all(land));
        Check.same("move", Check.outcome(twin::move), Check.outcome(land::move));
        twin.wish(0, 0, 5);
        land.wish(0, 0, 5);
        makeWrongCalls(land);
        Check.same("at the end", Lands.all(twin), Lands.all(land));
    }

    private static void promise3NamedFirst() {
        HutRings land = Lands.full();
        Due.refused("place behind, the own one", land, Due.INDEX, () -> land.wish(0, 10, 0));
        Due.refused("place ahead, the own one", land, Due.INDEX, () -> land.wish(0, -1, 0));
        Due.refused("place behind, in the list", land, Due.INDEX, () -> land.wish(0, 10, 9));
        Due.refused("place ahead, in the list", land, Due.INDEX, () -> land.wish(0, -1, 9));
        Due.refused("place far, in the list", land, Due.INDEX, () -> land.wish(0, Due.GREATEST, 1));
        HutRings empty = Lands.empty(1);
        Due.refused("place behind an empty list, the own one", empty, Due.INDEX, () -> empty.wish(0, 1, 0));
    }

    private static void promise7NamedFirst() {
        HutRings land = Lands.full();
        Due.refusedOutside("no such keeper, round 0", land, 10, keeper -> land.points(keeper, 0));
        Due.refusedOutside("no such keeper, least round", land, 10, keeper -> land.points(keeper, Due.LEAST));
        Due.refused("none at all", new HutRings(), Due.INDEX, () -> new HutRings().points(0, 0));
    }

    private static void promise11NamedFirst() {
        HutRings land = Lands.full();
        Due.refusedOutside("no such keeper, both the same", land, 10, keeper -> land.without(keeper, keeper));
        Due.refused("none at all", new HutRings(), Due.INDEX, () -> new HutRings().without(0, 0));
    }

    private static void lastOf512Calls() {
        int lasts = lastCalls(new HutRings()).size();
        for (int i = 0; i < lasts; i++) {
            HutRings used = Lands.full();
            HutRings fresh = Lands.full();
            // 10 keepers came and made 9 wishes each.
            useUp(used, 512 - 1 - 10 - 90);
            Check.same("last call " + i, Check.outcome(lastCalls(fresh).get(i)),
                    Check.outcome(lastCalls(used).get(i)));
        }
    }

    /** As many calls as told, after which the land is as it was. */
    private static void useUp(HutRings land, int calls) {
        int left = calls;
        while (left >= 4) {
            int hut = land.drop(0, 8);
            land.wish(0, 8, hut);
            land.without(left % 10, (left + 1) % 10);
            land.feign(left % 10, (left + 2) % 10);
            left -= 4;
        }
        for (; left > 0; left--) {
            Check.dueThrow("one more call", Due.STATE, land::come);
        }
    }

    private static List<Check.Call> lastCalls(HutRings land) {
        List<Check.Call> calls = new ArrayList<>();
        calls.add(land::come);
        calls.add(() -> land.wish(0, 0, 0));
        calls.add(() -> land.drop(9, 8));
        calls.add(() -> land.list(9, 8));
        calls.add(() -> land.told(9, 2));
        calls.add(() -> land.points(9, 1));
        calls.add(() -> land.rank(9, 9));
        calls.add(() -> land.count(5));
        calls.add(() -> land.swaps(9, 0) ? 1 : 0);
        calls.add(() -> land.without(8, 9));
        calls.add(() -> land.feign(0, 9));
        calls.add(land::move);
        calls.add(() -> Double.doubleToLongBits(land.mean()));
        calls.add(land::digest);
        return calls;
    }
}
