/** Each sentence of the document on what the rings give that names a boundary case: promises 6 to 9. */
public final class RingEdgesTest {
    private RingEdgesTest() {
    }

    public static void main(String[] args) {
        Check.sentence("Promise 7: points, Terms: Rings",
                "In the first round all keepers and all huts are there.",
                RingEdgesTest::ringsAllThereInTheFirstRound);
        Check.sentence("Promise 7: points, Terms: Rings",
                "In a round each keeper who is there points at the first hut of the list that is still "
                + "there",
                RingEdgesTest::ringsFirstHutStillThere);
        Check.sentence("Promise 7: points, Terms: Rings",
                "without any at the own one",
                RingEdgesTest::ringsWithoutAnyAtTheOwnOne);
        Check.sentence("Promise 7: points, Terms: Rings",
                "It points so at the keeper who has it.",
                RingEdgesTest::ringsKeeperWhoHasIt);
        Check.sentence("Promise 6: told, Terms: Rings",
                "Keepers from whom pointing on and on leads back to themselves stand in a ring",
                RingEdgesTest::ringsPointingBack);
        Check.sentence("Promise 6: told, Terms: Rings",
                "one who points at the own hut is a ring of one",
                RingEdgesTest::ringsRingOfOne);
        Check.sentence("Promise 6: told, Terms: Rings",
                "All rings of the round are done then: their keepers get the huts pointed at, and they "
                + "and these huts are not there any more.",
                RingEdgesTest::ringsAllOfTheRoundAreDone);
        Check.sentence("Promise 6: told, Terms: Rings",
                "Rounds go on, from 1, till nobody is there.",
                RingEdgesTest::ringsRoundsFromOneTillNobody);
        Check.sentence("Promise 6: told",
                "0 the hut that this one has now, 1 the length of the list, 2 the hut that this one gets, "
                + "3 the round in which, 4 the number of keepers in the ring, 5 the rank of the hut that "
                + "this one gets",
                RingEdgesTest::promise6LeastAndGreatestAnswers);
        Check.sentence("Promise 6: told",
                "Throws `IndexOutOfBoundsException` if there is no such keeper",
                RingEdgesTest::promise6ThrowsIfNoSuchKeeper);
        Check.sentence("Promise 6: told",
                "Throws `IndexOutOfBoundsException` if .. what is not 0 to 5",
                RingEdgesTest::promise6ThrowsIfNoSuchWhat);
        Check.sentence("Promise 7: points",
                "Returns the keeper at whom this one points in it; -1 if this one is done ahead of it.",
                RingEdgesTest::promise7DoneAheadOfIt);
        Check.sentence("Promise 7: points",
                "Throws `IndexOutOfBoundsException` if there is no such keeper",
                RingEdgesTest::promise7ThrowsIfNoSuchKeeper);
        Check.sentence("Promise 7: points",
                "Throws `IllegalArgumentException` if round is less than 1",
                RingEdgesTest::promise7ThrowsIfRoundLessThanOne);
        Check.sentence("Promise 8: rank, Terms",
                "Rank of a hut for a keeper: its place in the list, from 0",
                RingEdgesTest::promise8PlaceFromZero);
        Check.sentence("Promise 8: rank, Terms",
                "the own one is behind all of the list",
                RingEdgesTest::promise8OwnOneBehindTheList);
        Check.sentence("Promise 8: rank, Terms",
                "huts that are neither have none .. Returns its rank for this keeper; -1 if it has none.",
                RingEdgesTest::promise8NoneHasMinusOne);
        Check.sentence("Promise 8: rank",
                "Throws `IndexOutOfBoundsException` if there is no such keeper",
                RingEdgesTest::promise8ThrowsIfNoSuchKeeper);
        Check.sentence("Promise 8: rank",
                "Throws `IndexOutOfBoundsException` if there is no such keeper or hut",
                RingEdgesTest::promise8ThrowsIfNoSuchHut);
        Check.sentence("Promise 9: count",
                "0 keepers, 1 rounds",
                RingEdgesTest::promise9Rounds);
        Check.sentence("Promise 9: count",
                "2 rings of more than one",
                RingEdgesTest::promise9RingsOfMoreThanOne);
        Check.sentence("Promise 9: count",
                "3 keepers who get another hut than they have",
                RingEdgesTest::promise9AnotherHut);
        Check.sentence("Promise 9: count",
                "4 the ranks of what all get, added",
                RingEdgesTest::promise9RanksAdded);
        Check.sentence("Promise 9: count",
                "5 keepers in the greatest ring, 0 without any",
                RingEdgesTest::promise9GreatestRing);
        Check.sentence("Promise 9: count",
                "Throws `IndexOutOfBoundsException` if what is not 0 to 5",
                RingEdgesTest::promise9ThrowsIfNoSuchWhat);
        Check.end("RingEdgesTest");
    }

    private static void ringsAllThereInTheFirstRound() {
        HutRings longest = Lands.longest();
        Due.points("done in the first round", longest, 0, 0);
        for (int keeper = 1; keeper < 10; keeper++) {
            Due.points("done in a later round", longest, keeper, 0);
        }
        longest.move();
        Due.points("done in the last round, after a move", longest, 9, 0);
        HutRings full = Lands.full();
        full.move();
        full.wish(0, 0, 0);
        Due.points("at the hut that went to the last keeper", full, 0, 9);
    }

    private static void ringsFirstHutStillThere() {
        Due.points("all of a list go one by one", Lands.longest(), 9, 0, 1, 2, 3, 4, 5, 6, 7, 8, 9);
        HutRings land = Lands.of(Lands.list(), Lands.list(0), Lands.list(0, 1), Lands.list(0, 1, 4), Lands.list(0, 3));
        Due.points("the second of the list, then the last one", land, 3, 0, 1, 4, -1);
        Due.points("two go at once", land, 4, 0, 3, 3, -1);
        Due.told("gets", land, 2, 0, 1, 2, 4, 3);
        HutRings first = Lands.of(Lands.list(2, 1), Lands.list(0), Lands.list());
        Due.points("not one that comes ahead by its number", first, 0, 2, 1, -1);
    }

    private static void ringsWithoutAnyAtTheOwnOne() {
        Due.points("an empty list", Lands.empty(1), 0, 0, -1);
        Due.points("an empty list of the tenth", Lands.empty(10), 9, 9, -1);
        Due.points("a list of which all are gone", Lands.longest(), 1, 0, 1, -1);
        HutRings pair = Lands.of(Lands.list(1), Lands.list(0), Lands.list(1, 0));
        Due.points("a list of which all go at once", pair, 2, 1, 2, -1);
        Due.told("gets the own one", pair, 2, 1, 0, 2);
    }

    private static void ringsKeeperWhoHasIt() {
        HutRings land = Lands.ringOfTen();
        land.move();
        for (int keeper = 0; keeper < 10; keeper++) {
            Due.points("at the own one, after a move", land, keeper, keeper);
        }
        land.wish(3, 0, 0);
        Due.points("the hut 0, which the last one has", land, 3, 9, 3);
        land.wish(9, 0, 9);
        Due.points("the hut 9, which the last but one has", land, 9, 8, 9);
    }

    private static void ringsPointingBack() {
        Due.told("a ring of all ten", Lands.ringOfTen(), 4, 10, 10, 10, 10, 10, 10, 10, 10, 10, 10);
        Due.told("a ring of two", Lands.of(Lands.list(1), Lands.list(0)), 4, 2, 2);
        // The first of a long row points at the next, and so on to a ring of two at its end.
        HutRings row = Lands.of(Lands.list(1), Lands.list(2), Lands.list(3), Lands.list(4), Lands.list(5),
                Lands.list(6), Lands.list(7), Lands.list(8), Lands.list(9), Lands.list(8));
        Due.told("who leads to a ring is not in it: rings", row, 4, 1, 1, 1, 1, 1, 1, 1, 1, 2, 2);
        Due.told("who leads to a ring is not in it: rounds", row, 3, 9, 8, 7, 6, 5, 4, 3, 2, 1, 1);
        Due.told("who leads to a ring is not in it: huts", row, 2, 0, 1, 2, 3, 4, 5, 6, 7, 9, 8);
    }

    private static void ringsRingOfOne() {
        Due.told("the only keeper", Lands.empty(1), 4, 1);
        Due.told("ten with empty lists", Lands.empty(10), 4, 1, 1, 1, 1, 1, 1, 1, 1, 1, 1);
        Due.told("at the own one in the last round", Lands.longest(), 4, 1, 1, 1, 1, 1, 1, 1, 1, 1, 1);
        HutRings moved = Lands.ringOfTen();
        moved.move();
        Due.told("at the own one after a move", moved, 4, 1, 1, 1, 1, 1, 1, 1, 1, 1, 1);
        HutRings pointedAt = Lands.of(Lands.list(), Lands.list(0), Lands.list(0));
        Due.told("pointed at by others", pointedAt, 4, 1, 1, 1);
        Due.told("pointed at by others: rounds", pointedAt, 3, 1, 2, 2);
    }

    private static void ringsAllOfTheRoundAreDone() {
        HutRings pairs = Lands.of(Lands.list(5), Lands.list(6), Lands.list(7), Lands.list(8), Lands.list(9),
                Lands.list(0), Lands.list(1), Lands.list(2), Lands.list(3), Lands.list(4));
        Due.told("five rings at once: rounds", pairs, 3, 1, 1, 1, 1, 1, 1, 1, 1, 1, 1);
        Due.told("five rings at once: huts", pairs, 2, 5, 6, 7, 8, 9, 0, 1, 2, 3, 4);
        // Keeper 2 would close a ring with 3 in the first round, if the ring of 0 and 1 were gone within it.
        HutRings late = Lands.of(Lands.list(1), Lands.list(0), Lands.list(0, 3), Lands.list(2));
        Due.told("the others point again in the next round only", late, 3, 1, 1, 2, 2);
        Due.told("the others point again in the next round only", late, 2, 1, 0, 3, 2);
        // Keeper 0 comes ahead by its number, and has to wait for the ring of 1 and 2 all the same.
        HutRings early = Lands.of(Lands.list(1), Lands.list(2), Lands.list(1));
        Due.told("the one who points at a ring", early, 3, 2, 1, 1);
        Due.told("the one who points at a ring", early, 2, 0, 2, 1);
    }

    private static void ringsRoundsFromOneTillNobody() {
        Due.told("the only round", Lands.empty(1), 3, 1);
        Due.told("as many rounds as can be", Lands.longest(), 3, 1, 2, 3, 4, 5, 6, 7, 8, 9, 10);
        Due.told("as many rounds as can be: all get one", Lands.longest(), 2, 0, 1, 2, 3, 4, 5, 6, 7, 8, 9);
        Due.counts("nobody is there: no round", new HutRings(), 0, 0);
    }

    private static void promise6LeastAndGreatestAnswers() {
        HutRings land = Lands.longest();
        int[] first = {0, 0, 0, 1, 1, 0};
        int[] last = {9, 9, 9, 10, 1, 9};
        for (int number = 0; number < 6; number++) {
            int what = number;
            Due.kept("the first one, what " + what, land, first[what], () -> land.told(0, what));
            Due.kept("the last one, what " + what, land, last[what], () -> land.told(9, what));
        }
        HutRings full = Lands.full();
        int[] inRing = {9, 9, 0, 1, 10, 0};
        for (int number = 0; number < 6; number++) {
            int what = number;
            Due.kept("one in a ring of ten, what " + what, full, inRing[what], () -> full.told(9, what));
        }
    }

    private static void promise6ThrowsIfNoSuchKeeper() {
        for (int keepers = 1; keepers <= 10; keepers += 3) {
            HutRings land = Lands.empty(keepers);
            Due.refusedOutside("of " + keepers + ": keeper", land, keepers, keeper -> land.told(keeper, 0));
            Due.refusedOutside("of " + keepers + ": keeper", land, keepers, keeper -> land.told(keeper, 5));
        }
        Due.refused("of none", new HutRings(), Due.INDEX, () -> new HutRings().told(0, 0));
    }

    private static void promise6ThrowsIfNoSuchWhat() {
        HutRings land = Lands.full();
        Due.refusedOutside("of the first: what", land, 6, what -> land.told(0, what));
        Due.refusedOutside("of the last: what", land, 6, what -> land.told(9, what));
        Due.kept("the least", land, 0, () -> land.told(0, 0));
        Due.kept("the greatest", land, 0, () -> land.told(0, 5));
    }

    private static void promise7DoneAheadOfIt() {
        HutRings land = Lands.longest();
        for (int number = 0; number < 10; number++) {
            int keeper = number;
            int done = number + 1;
            Due.kept("in the round in which it is done", land, keeper, () -> land.points(keeper, done));
            Due.kept("in the next one", land, -1, () -> land.points(keeper, done + 1));
            Due.kept("in the greatest one", land, -1, () -> land.points(keeper, Due.GREATEST));
        }
        Due.kept("in the last round ahead of its own", land, 8, () -> land.points(9, 9));
        HutRings ring = Lands.ringOfTen();
        Due.points("a ring of ten", ring, 9, 0, -1);
        Due.points("a ring of ten", ring, 0, 1, -1);
    }

    private static void promise7ThrowsIfNoSuchKeeper() {
        for (int keepers = 1; keepers <= 10; keepers += 3) {
            HutRings land = Lands.empty(keepers);
            Due.refusedOutside("of " + keepers + ": keeper", land, keepers, keeper -> land.points(keeper, 1));
            Due.refusedOutside("of " + keepers + ", all done: keeper", land, keepers, keeper -> land.points(keeper, 2));
        }
        Due.refused("of none", new HutRings(), Due.INDEX, () -> new HutRings().points(0, 1));
    }

    private static void promise7ThrowsIfRoundLessThanOne() {
        HutRings land = Lands.longest();
        int[] rounds = {0, -1, -2, -10, Due.LEAST, Due.LEAST + 1, -(1 << 8) + 1, -(1 << 16) + 1};
        for (int number : rounds) {
            Due.refused("the first, round " + number, land, Due.ARGUMENT, () -> land.points(0, number));
            Due.refused("the last, round " + number, land, Due.ARGUMENT, () -> land.points(9, number));
        }
        Due.kept("round 1", land, 0, () -> land.points(0, 1));
        Due.kept("one more than there are is no wrong one", land, -1, () -> land.points(9, 11));
    }

    private static void promise8PlaceFromZero() {
        HutRings land = Lands.full();
        for (int number = 0; number < 9; number++) {
            int place = number;
            Due.kept("of a full list", land, place, () -> land.rank(0, place + 1));
            Due.kept("of the full list of the last", land, place, () -> land.rank(9, place));
        }
    }

    private static void promise8OwnOneBehindTheList() {
        HutRings full = Lands.full();
        Due.kept("a full list", full, 9, () -> full.rank(0, 0));
        Due.kept("the full list of the last", full, 9, () -> full.rank(9, 9));
        HutRings empty = Lands.empty(10);
        Due.kept("an empty list", empty, 0, () -> empty.rank(9, 9));
        full.move();
        Due.kept("a list that a move emptied", full, 0, () -> full.rank(0, 1));
        full.wish(0, 0, 0);
        Due.kept("behind the hut of before", full, 1, () -> full.rank(0, 1));
        full.drop(0, 0);
        Due.kept("after a drop", full, 0, () -> full.rank(0, 1));
    }

    private static void promise8NoneHasMinusOne() {
        HutRings empty = Lands.empty(10);
        for (int number = 1; number < 10; number++) {
            int hut = number;
            Due.kept("an empty list, hut " + hut, empty, -1, () -> empty.rank(0, hut));
        }
        HutRings land = Lands.full();
        land.drop(0, 8);
        Due.kept("the one that was dropped", land, -1, () -> land.rank(0, 9));
        land.move();
        Due.kept("the own one of before", land, -1, () -> land.rank(0, 0));
        Due.kept("one that a move took away", land, -1, () -> land.rank(0, 2));
    }

    private static void promise8ThrowsIfNoSuchKeeper() {
        for (int keepers = 1; keepers <= 10; keepers += 3) {
            HutRings land = Lands.empty(keepers);
            Due.refusedOutside("of " + keepers + ": keeper", land, keepers, keeper -> land.rank(keeper, 0));
        }
        Due.refused("of none", new HutRings(), Due.INDEX, () -> new HutRings().rank(0, 0));
    }

    private static void promise8ThrowsIfNoSuchHut() {
        for (int keepers = 1; keepers <= 10; keepers += 3) {
            HutRings land = Lands.empty(keepers);
            Due.refusedOutside("of " + keepers + ": hut", land, keepers, hut -> land.rank(0, hut));
        }
    }

    private static void promise9Rounds() {
        Due.counts("none", new HutRings(), 0, 0);
        Due.counts("one", Lands.empty(1), 1, 1);
        Due.counts("ten in one round", Lands.empty(10), 10, 1);
        Due.counts("a full land in one round", Lands.full(), 10, 1);
        Due.counts("ten in ten rounds", Lands.longest(), 10, 10);
    }

    private static void promise9RingsOfMoreThanOne() {
        Check.due("none", 0, () -> new HutRings().count(2));
        Check.due("rings of one only", 0, () -> Lands.empty(10).count(2));
        Check.due("rings of one only, in ten rounds", 0, () -> Lands.longest().count(2));
        Check.due("a ring of two", 1, () -> Lands.of(Lands.list(1), Lands.list(0)).count(2));
        Check.due("a ring of ten", 1, () -> Lands.ringOfTen().count(2));
        HutRings pairs = Lands.of(Lands.list(1), Lands.list(0), Lands.list(3), Lands.list(2),
                Lands.list(5), Lands.list(4), Lands.list(7), Lands.list(6), Lands.list(9), Lands.list(8));
        Check.due("as many as can be", 5, () -> pairs.count(2));
    }

    private static void promise9AnotherHut() {
        Check.due("none", 0, () -> new HutRings().count(3));
        Check.due("all the own one", 0, () -> Lands.longest().count(3));
        Check.due("all another one", 10, () -> Lands.full().count(3));
        Check.due("two of three", 2, () -> Lands.of(Lands.list(1), Lands.list(0), Lands.list(0)).count(3));
        HutRings moved = Lands.full();
        moved.move();
        Check.due("all the own one, after a move", 0, () -> moved.count(3));
    }

    private static void promise9RanksAdded() {
        Check.due("none", 0, () -> new HutRings().count(4));
        Check.due("all the first", 0, () -> Lands.full().count(4));
        Check.due("the own ones behind empty lists", 0, () -> Lands.empty(10).count(4));
        Check.due("the own ones behind all", 45, () -> Lands.longest().count(4));
    }

    private static void promise9GreatestRing() {
        Check.due("without any", 0, () -> new HutRings().count(5));
        Check.due("one", 1, () -> Lands.empty(1).count(5));
        Check.due("all ten", 10, () -> Lands.ringOfTen().count(5));
        HutRings twoAndThree = Lands.of(Lands.list(1), Lands.list(0), Lands.list(3), Lands.list(4), Lands.list(2));
        Check.due("the greater one behind", 3, () -> twoAndThree.count(5));
        HutRings threeAndTwo = Lands.of(Lands.list(1), Lands.list(2), Lands.list(0), Lands.list(4), Lands.list(3));
        Check.due("the greater one ahead", 3, () -> threeAndTwo.count(5));
        Check.due("the greatest one in the last round", 2,
                () -> Lands.of(Lands.list(), Lands.list(0, 2), Lands.list(0, 1)).count(5));
    }

    private static void promise9ThrowsIfNoSuchWhat() {
        HutRings none = new HutRings();
        Due.refusedOutside("none: what", none, 6, none::count);
        HutRings full = Lands.full();
        Due.refusedOutside("full: what", full, 6, full::count);
        Due.kept("the least", full, 10, () -> full.count(0));
        Due.kept("the greatest", full, 10, () -> full.count(5));
    }
}
