import java.math.BigInteger;
import java.util.ArrayList;
import java.util.List;

/** Each sentence of the document on what would be that names a boundary case: promises 10 to 15. */
public final class WouldBeEdgesTest {
    private WouldBeEdgesTest() {
    }

    public static void main(String[] args) {
        Check.sentence("Promise 10: swaps",
                "Returns whether both had rather have what the other one gets",
                WouldBeEdgesTest::promise10BothHadRather);
        Check.sentence("Promise 10: swaps",
                "for both it has a rank",
                WouldBeEdgesTest::promise10HasARank);
        Check.sentence("Promise 10: swaps",
                "and a lesser one than what they get",
                WouldBeEdgesTest::promise10ALesserOne);
        Check.sentence("Promise 10: swaps",
                "Throws `IndexOutOfBoundsException` if there is no such keeper",
                WouldBeEdgesTest::promise10ThrowsIfNoSuchKeeper);
        Check.sentence("Promise 11: without",
                "Returns the hut that the first one would get, if the other one, and the hut that this "
                + "one has now, were not there (nothing is changed).",
                WouldBeEdgesTest::promise11OtherWereNotThere);
        Check.sentence("Promise 11: without",
                "the hut that this one has now",
                WouldBeEdgesTest::promise11HutOfNow);
        Check.sentence("Promise 11: without",
                "Throws `IndexOutOfBoundsException` if there is no such keeper",
                WouldBeEdgesTest::promise11ThrowsIfNoSuchKeeper);
        Check.sentence("Promise 11: without",
                "Throws `IllegalArgumentException` if both are the same",
                WouldBeEdgesTest::promise11ThrowsIfBothAreTheSame);
        Check.sentence("Promise 12: feign",
                "Returns the hut that this one would get, if this hut alone stood in the list",
                WouldBeEdgesTest::promise12ThisHutAlone);
        Check.sentence("Promise 12: feign",
                "or, if it is the own one, none (nothing is changed)",
                WouldBeEdgesTest::promise12OwnOneNone);
        Check.sentence("Promise 12: feign",
                "Throws `IndexOutOfBoundsException` if there is no such keeper",
                WouldBeEdgesTest::promise12ThrowsIfNoSuchKeeper);
        Check.sentence("Promise 12: feign",
                "Throws `IndexOutOfBoundsException` if there is no such keeper or hut",
                WouldBeEdgesTest::promise12ThrowsIfNoSuchHut);
        Check.sentence("Promise 13: move",
                "All move: each keeper has the hut then that this one gets.",
                WouldBeEdgesTest::promise13AllMove);
        Check.sentence("Promise 13: move",
                "Out of each list this hut, and all behind it, are taken",
                WouldBeEdgesTest::promise13TakenOutOfTheList);
        Check.sentence("Promise 13: move",
                "nothing, if it is the own one",
                WouldBeEdgesTest::promise13NothingIfTheOwnOne);
        Check.sentence("Promise 13: move",
                "Returns how many keepers have another hut then.",
                WouldBeEdgesTest::promise13HowMany);
        Check.sentence("Promise 14: mean",
                "0 without any.",
                WouldBeEdgesTest::promise14WithoutAny);
        Check.sentence("Promise 14: mean",
                "Returns the mean round in which keepers are done",
                WouldBeEdgesTest::promise14MeanRound);
        Check.sentence("Promise 15: digest",
                "A number d starts with 1259",
                WouldBeEdgesTest::promise15StartsWith);
        Check.sentence("Promise 15: digest",
                "d becomes d * 31 + x, which wraps around as a 64-bit integer",
                WouldBeEdgesTest::promise15WrapsAround);
        Check.sentence("Promise 15: digest",
                "what count() tells, in its order; for each keeper what told() tells, in its order, the "
                + "huts of the list, in their order, and the keeper at whom this one points in the first "
                + "round.",
                WouldBeEdgesTest::promise15InItsOrder);
        Check.end("WouldBeEdgesTest");
    }

    private static void promise10BothHadRather() {
        // Keeper 1 had rather have what 0 gets, and 0 has the best one; so no two ever had both rather.
        HutRings land = Lands.of(Lands.list(2, 1), Lands.list(2, 0), Lands.list(0));
        Due.kept("the second only", land, 0, () -> land.swaps(0, 1) ? 1 : 0);
        Due.kept("the first only", land, 0, () -> land.swaps(1, 0) ? 1 : 0);
        Due.kept("neither", land, 0, () -> land.swaps(0, 2) ? 1 : 0);
        HutRings longest = Lands.longest();
        Due.kept("the last one only", longest, 0, () -> longest.swaps(0, 9) ? 1 : 0);
        Due.kept("the last one only", longest, 0, () -> longest.swaps(9, 0) ? 1 : 0);
    }

    private static void promise10HasARank() {
        HutRings empty = Lands.empty(10);
        Due.kept("no rank, empty lists", empty, 0, () -> empty.swaps(0, 9) ? 1 : 0);
        HutRings land = Lands.of(Lands.list(), Lands.list(0), Lands.list(0), Lands.list(0));
        Due.kept("no rank for the first", land, 0, () -> land.swaps(0, 1) ? 1 : 0);
        Due.kept("no rank for the second", land, 0, () -> land.swaps(1, 0) ? 1 : 0);
        Due.kept("no rank for both", land, 0, () -> land.swaps(2, 3) ? 1 : 0);
    }

    private static void promise10ALesserOne() {
        HutRings empty = Lands.empty(10);
        Due.kept("the same rank: one keeper twice, empty list", empty, 0, () -> empty.swaps(9, 9) ? 1 : 0);
        HutRings full = Lands.full();
        for (int number = 0; number < 10; number++) {
            int keeper = number;
            Due.kept("the same rank: one keeper twice", full, 0, () -> full.swaps(keeper, keeper) ? 1 : 0);
            Due.kept("all have the best one", full, 0, () -> full.swaps(keeper, 9 - keeper) ? 1 : 0);
        }
    }

    private static void promise10ThrowsIfNoSuchKeeper() {
        for (int keepers = 1; keepers <= 10; keepers += 3) {
            HutRings land = Lands.empty(keepers);
            int last = keepers - 1;
            Due.refusedOutside("of " + keepers + ": a", land, keepers, a -> land.swaps(a, last) ? 1 : 0);
            Due.refusedOutside("of " + keepers + ": b", land, keepers, b -> land.swaps(0, b) ? 1 : 0);
            Due.refusedOutside("of " + keepers + ": both", land, keepers, ab -> land.swaps(ab, ab) ? 1 : 0);
        }
        Due.refused("of none", new HutRings(), Due.INDEX, () -> new HutRings().swaps(0, 0) ? 1 : 0);
    }

    private static void promise11OtherWereNotThere() {
        HutRings pair = Lands.of(Lands.list(1), Lands.list(0));
        Due.kept("one alone is left", pair, 0, () -> pair.without(0, 1));
        Due.kept("one alone is left", pair, 1, () -> pair.without(1, 0));
        HutRings longest = Lands.longest();
        for (int number = 1; number < 10; number++) {
            int keeper = number;
            Due.kept("the one whom all point at", longest, keeper, () -> longest.without(keeper, 0));
            Due.kept("the last one", longest, keeper - 1, () -> longest.without(keeper - 1, 9));
        }
        HutRings ring = Lands.ringOfTen();
        Due.kept("a ring of ten falls apart", ring, 0, () -> ring.without(0, 9));
        Due.kept("a ring of ten falls apart", ring, 8, () -> ring.without(8, 9));
        HutRings full = Lands.full();
        Due.kept("a ring of ten closes again", full, 0, () -> full.without(8, 9));
        Due.kept("a ring of ten closes again", full, 1, () -> full.without(0, 9));
        Due.kept("the one left out is there again", full, 9, () -> full.without(8, 0));
        Due.kept("the one left out is there again: feign", full, 9, () -> full.feign(8, 9));
    }

    private static void promise11HutOfNow() {
        HutRings land = Lands.of(Lands.list(1), Lands.list(0), Lands.list());
        land.move();
        land.wish(2, 0, 1);
        land.wish(0, 0, 2);
        // Keeper 0 has hut 1 and keeper 1 has hut 0: without 1, hut 1 is there yet.
        Due.kept("the hut of the other's number is there", land, 1, () -> land.without(2, 1));
        Due.kept("the hut that the other has is not there", land, 2, () -> land.without(2, 0));
        land.wish(1, 0, 1);
        Due.kept("the other has moved", land, 0, () -> land.without(1, 0));
    }

    private static void promise11ThrowsIfNoSuchKeeper() {
        for (int keepers = 2; keepers <= 10; keepers += 4) {
            HutRings land = Lands.empty(keepers);
            Due.refusedOutside("of " + keepers + ": keeper", land, keepers, keeper -> land.without(keeper, 0));
            Due.refusedOutside("of " + keepers + ": other", land, keepers, other -> land.without(0, other));
        }
        HutRings one = Lands.empty(1);
        Due.refused("of one: there is no other", one, Due.INDEX, () -> one.without(0, 1));
        Due.refused("of none", new HutRings(), Due.INDEX, () -> new HutRings().without(0, 1));
    }

    private static void promise11ThrowsIfBothAreTheSame() {
        HutRings full = Lands.full();
        for (int number = 0; number < 10; number++) {
            int keeper = number;
            Due.refused("of ten: " + keeper, full, Due.ARGUMENT, () -> full.without(keeper, keeper));
        }
        HutRings one = Lands.empty(1);
        Due.refused("the only one", one, Due.ARGUMENT, () -> one.without(0, 0));
    }

    private static void promise12ThisHutAlone() {
        HutRings longest = Lands.longest();
        Due.kept("a hut that goes in the first round", longest, 9, () -> longest.feign(9, 0));
        Due.kept("a hut that goes in the last round but one", longest, 9, () -> longest.feign(9, 8));
        Due.kept("an empty list, a ring with the last", longest, 9, () -> longest.feign(0, 9));
        HutRings full = Lands.full();
        Due.kept("one that is in the list", full, 1, () -> full.feign(0, 1));
        Due.kept("the last of a full list", full, 9, () -> full.feign(0, 9));
        HutRings land = Lands.of(Lands.list(1, 2), Lands.list(), Lands.list(0), Lands.list());
        Due.kept("what is so", land, 2, () -> land.feign(0, 2));
        Due.kept("the others of the list do not count", land, 0, () -> land.feign(0, 1));
        Due.kept("one that is not in the list", land, 0, () -> land.feign(0, 3));
        Due.kept("an empty list, one that nobody leaves", land, 3, () -> land.feign(3, 1));
        Due.kept("what is feigned does not last: feign of another", land, 0, () -> land.feign(2, 0));
        Due.kept("what is feigned does not last: without another", land, 2, () -> land.without(0, 3));
    }

    private static void promise12OwnOneNone() {
        HutRings full = Lands.full();
        for (int number = 0; number < 10; number++) {
            int keeper = number;
            Due.kept("a full list", full, keeper, () -> full.feign(keeper, keeper));
        }
        HutRings one = Lands.empty(1);
        Due.kept("the only hut", one, 0, () -> one.feign(0, 0));
        full.move();
        Due.kept("the own one after a move", full, 0, () -> full.feign(9, 0));
        full.wish(8, 0, 0);
        Due.kept("the own one of before is another one", full, 9, () -> full.feign(9, 9));
    }

    private static void promise12ThrowsIfNoSuchKeeper() {
        for (int keepers = 1; keepers <= 10; keepers += 3) {
            HutRings land = Lands.empty(keepers);
            Due.refusedOutside("of " + keepers + ": keeper", land, keepers, keeper -> land.feign(keeper, 0));
        }
        Due.refused("of none", new HutRings(), Due.INDEX, () -> new HutRings().feign(0, 0));
    }

    private static void promise12ThrowsIfNoSuchHut() {
        for (int keepers = 1; keepers <= 10; keepers += 3) {
            HutRings land = Lands.empty(keepers);
            Due.refusedOutside("of " + keepers + ": hut", land, keepers, hut -> land.feign(0, hut));
        }
    }

    private static void promise13AllMove() {
        HutRings ring = Lands.ringOfTen();
        ring.move();
        Due.told("a ring of ten", ring, 0, 1, 2, 3, 4, 5, 6, 7, 8, 9, 0);
        ring.move();
        Due.told("a ring of ten, a second move", ring, 0, 1, 2, 3, 4, 5, 6, 7, 8, 9, 0);
        HutRings longest = Lands.longest();
        longest.move();
        Due.told("all the own ones", longest, 0, 0, 1, 2, 3, 4, 5, 6, 7, 8, 9);
        HutRings none = new HutRings();
        none.move();
        Due.counts("none", none, 0, 0, 0, 0, 0, 0);
        HutRings one = Lands.empty(1);
        one.move();
        Due.told("one", one, 0, 0);
    }

    private static void promise13TakenOutOfTheList() {
        HutRings full = Lands.full();
        full.move();
        for (int keeper = 0; keeper < 10; keeper++) {
            Due.list("the first of a full list", full, keeper);
        }
        // Keeper 9 gets the last of a full list: all ahead of it are the huts of keepers with empty lists.
        HutRings last = Lands.empty(10);
        for (int hut = 0; hut < 9; hut++) {
            last.wish(9, hut, hut);
        }
        last.wish(8, 0, 9);
        last.move();
        Due.told("the last of a full list: huts", last, 0, 0, 1, 2, 3, 4, 5, 6, 7, 9, 8);
        Due.list("the last of a full list", last, 9, 0, 1, 2, 3, 4, 5, 6, 7);
        Due.list("the only one of a list", last, 8);
        HutRings middle = Lands.of(Lands.list(3, 1, 2), Lands.list(2, 0), Lands.list(), Lands.list());
        middle.move();
        Due.list("one in between, and the one behind", middle, 0, 3);
        Due.list("the last of two", middle, 1, 2);
    }

    private static void promise13NothingIfTheOwnOne() {
        HutRings longest = Lands.longest();
        String before = Lands.all(longest);
        longest.move();
        Due.list("a full list", longest, 9, 0, 1, 2, 3, 4, 5, 6, 7, 8);
        Due.list("a list of one", longest, 1, 0);
        Due.list("an empty list", longest, 0);
        Check.same("nothing is changed", before, Lands.all(longest));
        HutRings others = Lands.of(Lands.list(1), Lands.list(0), Lands.list(0, 1));
        others.move();
        Due.list("while others move", others, 2, 0, 1);
    }

    private static void promise13HowMany() {
        Check.due("none", 0, () -> new HutRings().move());
        Check.due("one", 0, () -> Lands.empty(1).move());
        Check.due("ten who stay", 0, () -> Lands.longest().move());
        HutRings full = Lands.full();
        Check.due("ten who move", 10, full::move);
        Check.due("a second move", 0, full::move);
        Check.due("two of three", 2, () -> Lands.of(Lands.list(1), Lands.list(0), Lands.list(0)).move());
    }

    private static void promise14WithoutAny() {
        HutRings none = new HutRings();
        Due.mean("none", 0.0, none);
        none.move();
        Due.mean("none, after a move", 0.0, none);
        none.come();
        Due.mean("the first one", 1.0, none);
    }

    private static void promise14MeanRound() {
        Due.mean("as small as can be", 1.0, Lands.empty(10));
        Due.mean("as great as can be", 5.5, Lands.longest());
        Due.mean("with a remainder", 4.0 / 3, Lands.of(Lands.list(1), Lands.list(0), Lands.list(0)));
        Due.mean("with a half", 1.5, Lands.of(Lands.list(), Lands.list(0)));
    }

    private static void promise15StartsWith() {
        // No number but the six counts of 0.
        Due.kept("none", new HutRings(), 1259L * 31 * 31 * 31 * 31 * 31 * 31, () -> new HutRings().digest());
    }

    private static void promise15WrapsAround() {
        int wrapped = 0;
        int below = 0;
        int above = 0;
        for (int keepers = 0; keepers <= 10; keepers++) {
            HutRings land = Lands.empty(keepers);
            BigInteger whole = BigInteger.valueOf(1259);
            for (int number : numbers(land)) {
                whole = whole.multiply(BigInteger.valueOf(31)).add(BigInteger.valueOf(number));
            }
            // The low 64 bits, the highest of them as the sign.
            long want = whole.longValue();
            Due.kept("of " + keepers, land, want, land::digest);
            wrapped += whole.bitLength() > 63 ? 1 : 0;
            below += want < 0 ? 1 : 0;
            above += want > 0 && whole.bitLength() > 63 ? 1 : 0;
        }
        Check.same("lands whose digest wraps around", "10", "" + wrapped);
        Check.same("some below 0, some above", "true", "" + (below > 0 && above > 0));
    }

    private static void promise15InItsOrder() {
        HutRings[] lands = {Lands.full(), Lands.longest(), Lands.ringOfTen(), Lands.six()};
        for (HutRings land : lands) {
            for (int moves = 0; moves < 2; moves++) {
                long want = 1259;
                for (int number : numbers(land)) {
                    want = want * 31 + number;
                }
                Due.kept("of full lists and empty ones", land, want, land::digest);
                land.move();
            }
        }
    }

    private static List<Integer> numbers(HutRings land) {
        List<Integer> numbers = new ArrayList<>();
        for (int what = 0; what < 6; what++) {
            numbers.add(land.count(what));
        }
        for (int keeper = 0; keeper < land.count(0); keeper++) {
            for (int what = 0; what < 6; what++) {
                numbers.add(land.told(keeper, what));
            }
            for (int place = 0; place < land.told(keeper, 1); place++) {
                numbers.add(land.list(keeper, place));
            }
            numbers.add(land.points(keeper, 1));
        }
        return numbers;
    }
}
