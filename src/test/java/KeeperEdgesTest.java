/** Each sentence of the document on keepers and lists that names a boundary case: promises 1 to 5. */
public final class KeeperEdgesTest {
    private KeeperEdgesTest() {
    }

    public static void main(String[] args) {
        Check.sentence("Promise 1: A new object",
                "Creates a land without huts.",
                KeeperEdgesTest::promise1LandWithoutHuts);
        Check.sentence("Promise 2: come",
                "Returns the number.",
                KeeperEdgesTest::promise2Number);
        Check.sentence("Promise 2: come, Terms: Keepers",
                "There are at most 10, numbered from 0 in the order of their coming.",
                KeeperEdgesTest::promise2AtMostTen);
        Check.sentence("Promise 2: come",
                "Throws `IllegalStateException` if there are 10",
                KeeperEdgesTest::promise2ThrowsIfThereAreTen);
        Check.sentence("Promise 2: come, Terms: Keepers",
                "The one that comes as k-th brings the hut k, and has it at first.",
                KeeperEdgesTest::promise2BringsHut);
        Check.sentence("Promise 2: come, Terms: Keepers",
                "at first it is empty",
                KeeperEdgesTest::promise2EmptyListAtFirst);
        Check.sentence("Promise 3: wish",
                "its place there, from 0; those at it and behind it go on by one",
                KeeperEdgesTest::promise3Place);
        Check.sentence("Promise 3: wish",
                "Returns how many huts the list has then.",
                KeeperEdgesTest::promise3HowMany);
        Check.sentence("Promise 3: wish, Terms: Keepers",
                "Each has a list of huts, without one twice",
                KeeperEdgesTest::promise3NoHutTwice);
        Check.sentence("Promise 3: wish, Terms: Keepers",
                "without the own one (the one that this keeper has now)",
                KeeperEdgesTest::promise3NotTheOwnOneOfNow);
        Check.sentence("Promise 3: wish",
                "Throws `IndexOutOfBoundsException` if there is no such keeper",
                KeeperEdgesTest::promise3ThrowsIfNoSuchKeeper);
        Check.sentence("Promise 3: wish",
                "Throws `IndexOutOfBoundsException` if there is no such keeper or hut",
                KeeperEdgesTest::promise3ThrowsIfNoSuchHut);
        Check.sentence("Promise 3: wish",
                "Throws `IndexOutOfBoundsException` if .. place is not 0 to the length of the list",
                KeeperEdgesTest::promise3ThrowsIfNoSuchPlace);
        Check.sentence("Promise 3: wish",
                "Throws `IllegalStateException` if it is the own one",
                KeeperEdgesTest::promise3ThrowsIfOwn);
        Check.sentence("Promise 3: wish",
                "Throws `IllegalStateException` if it is .. in the list",
                KeeperEdgesTest::promise3ThrowsIfInTheList);
        Check.sentence("Promise 4: drop",
                "Takes a hut out of the list of a keeper.",
                KeeperEdgesTest::promise4TakenOut);
        Check.sentence("Promise 4: drop",
                "Returns it.",
                KeeperEdgesTest::promise4ReturnsIt);
        Check.sentence("Promise 4: drop",
                "Throws `IndexOutOfBoundsException` if there is no such keeper",
                KeeperEdgesTest::promise4ThrowsIfNoSuchKeeper);
        Check.sentence("Promise 4: drop",
                "Throws `IndexOutOfBoundsException` if there is .. no such place in the list",
                KeeperEdgesTest::promise4ThrowsIfNoSuchPlace);
        Check.sentence("Promise 5: list",
                "Returns the hut there in the list.",
                KeeperEdgesTest::promise5HutThere);
        Check.sentence("Promise 5: list",
                "Throws `IndexOutOfBoundsException` if there is no such keeper",
                KeeperEdgesTest::promise5ThrowsIfNoSuchKeeper);
        Check.sentence("Promise 5: list",
                "Throws `IndexOutOfBoundsException` if there is .. no such place in the list",
                KeeperEdgesTest::promise5ThrowsIfNoSuchPlace);
        Check.end("KeeperEdgesTest");
    }

    private static void promise1LandWithoutHuts() {
        HutRings land = new HutRings();
        Due.counts("new", land, 0, 0, 0, 0, 0, 0);
        Due.refusedOutside("wish for the hut", land, 0, hut -> land.wish(0, 0, hut));
        Due.refused("wish of keeper 0", land, Due.INDEX, () -> land.wish(0, 0, 0));
        Due.refused("drop of keeper 0", land, Due.INDEX, () -> land.drop(0, 0));
        Due.refused("list of keeper 0", land, Due.INDEX, () -> land.list(0, 0));
        Due.refused("told of keeper 0", land, Due.INDEX, () -> land.told(0, 0));
        Due.refused("points of keeper 0", land, Due.INDEX, () -> land.points(0, 1));
        Due.refused("rank for keeper 0", land, Due.INDEX, () -> land.rank(0, 0));
        Due.refused("swaps of keeper 0", land, Due.INDEX, () -> land.swaps(0, 0) ? 1 : 0);
        Due.refused("without keeper 1", land, Due.INDEX, () -> land.without(0, 1));
        Due.refused("feign of keeper 0", land, Due.INDEX, () -> land.feign(0, 0));
        HutRings other = Lands.full();
        Due.counts("a new one beside a full one", land, 0, 0, 0, 0, 0, 0);
        Check.due("come to the new one", 0, land::come);
        Due.counts("a full one beside a new one", other, 10, 1, 1, 10, 0, 10);
    }

    private static void promise2Number() {
        HutRings land = new HutRings();
        Check.due("the first", 0, land::come);
        Check.due("the second", 1, land::come);
        land.wish(0, 0, 1);
        land.wish(1, 0, 0);
        land.move();
        for (int keeper = 2; keeper < 10; keeper++) {
            Check.due("the next, after a move", keeper, land::come);
        }
    }

    private static void promise2AtMostTen() {
        HutRings land = new HutRings();
        for (int keeper = 0; keeper < 10; keeper++) {
            int number = keeper;
            Due.refused("keeper " + keeper + " is not there yet", land, Due.INDEX, () -> land.told(number, 0));
            Check.due("come", keeper, land::come);
            Check.due("keeper " + keeper + " is there", keeper, () -> land.told(number, 0));
            Check.due("keepers", keeper + 1, () -> land.count(0));
        }
        Check.dueThrow("an 11th", Due.STATE, land::come);
        Check.due("keepers after an 11th", 10, () -> land.count(0));
        Due.refused("keeper 10 after an 11th", land, Due.INDEX, () -> land.told(10, 0));
    }

    private static void promise2ThrowsIfThereAreTen() {
        HutRings nine = Lands.empty(9);
        Check.due("the 10th", 9, nine::come);
        Due.refused("the 11th", nine, Due.STATE, nine::come);
        Due.refused("the 11th again", nine, Due.STATE, nine::come);
        HutRings full = Lands.full();
        Due.refused("the 11th into a full land", full, Due.STATE, full::come);
        full.move();
        Due.refused("the 11th after a move", full, Due.STATE, full::come);
    }

    private static void promise2BringsHut() {
        HutRings land = Lands.of(Lands.list(1), Lands.list(0));
        land.move();
        Due.refused("hut 2 is not there yet", land, Due.INDEX, () -> land.wish(0, 0, 2));
        land.come();
        Due.told("the third, after a move of the first two", land, 0, 1, 0, 2);
        Check.due("hut 2 is there", 1, () -> land.wish(0, 0, 2));
        for (int keeper = 3; keeper < 10; keeper++) {
            land.come();
        }
        Due.told("all ten", land, 0, 1, 0, 2, 3, 4, 5, 6, 7, 8, 9);
        Check.due("hut 9 is there", 2, () -> land.wish(0, 1, 9));
    }

    private static void promise2EmptyListAtFirst() {
        HutRings land = new HutRings();
        for (int keeper = 0; keeper < 10; keeper++) {
            int number = land.come();
            Due.list("the new one", land, number);
            Due.refused("the new one: place 0", land, Due.INDEX, () -> land.list(number, 0));
            // The next one finds lists that are not empty.
            for (int hut = 0; hut < number; hut++) {
                land.wish(number, 0, hut);
            }
        }
    }

    private static void promise3Place() {
        HutRings land = Lands.empty(10);
        land.wish(0, 0, 5);
        Due.list("at 0 of the empty list", land, 0, 5);
        land.wish(0, 0, 6);
        Due.list("at 0: all go on", land, 0, 6, 5);
        land.wish(0, 2, 7);
        Due.list("at the length: none goes on", land, 0, 6, 5, 7);
        land.wish(0, 1, 8);
        Due.list("in between: those at it and behind it go on", land, 0, 6, 8, 5, 7);
        land.wish(0, 3, 9);
        Due.list("at the last: that one goes on", land, 0, 6, 8, 5, 9, 7);
        land.wish(0, 5, 1);
        land.wish(0, 6, 2);
        land.wish(0, 7, 3);
        land.wish(0, 0, 4);
        Due.list("the last one that there is room for, at 0", land, 0, 4, 6, 8, 5, 9, 7, 1, 2, 3);
        Due.list("the list of another", land, 1);
    }

    private static void promise3HowMany() {
        HutRings land = Lands.empty(10);
        for (int length = 1; length < 10; length++) {
            int hut = length - 1;
            Check.due("the list of 9", length, () -> land.wish(9, hut / 2, hut));
        }
        int dropped = land.drop(9, 8);
        Check.due("full again", 9, () -> land.wish(9, 0, dropped));
        Check.due("the first of another", 1, () -> land.wish(0, 0, 9));
    }

    private static void promise3NoHutTwice() {
        HutRings land = Lands.of(Lands.list(3, 1, 2), Lands.list(3), Lands.list(), Lands.list());
        for (int place = 0; place <= 3; place++) {
            int at = place;
            Due.refused("the first again, at " + at, land, Due.STATE, () -> land.wish(0, at, 3));
            Due.refused("the second again, at " + at, land, Due.STATE, () -> land.wish(0, at, 1));
            Due.refused("the last again, at " + at, land, Due.STATE, () -> land.wish(0, at, 2));
        }
        Check.due("one that is in the list of others", 1, () -> land.wish(2, 0, 3));
        land.drop(0, 0);
        Check.due("one that was dropped", 3, () -> land.wish(0, 2, 3));
        Due.refused("that one again", land, Due.STATE, () -> land.wish(0, 0, 3));
    }

    private static void promise3NotTheOwnOneOfNow() {
        HutRings land = Lands.of(Lands.list(1), Lands.list(0), Lands.list());
        Due.refused("the own one ahead of the move", land, Due.STATE, () -> land.wish(0, 0, 0));
        land.move();
        Due.refused("the own one after the move", land, Due.STATE, () -> land.wish(0, 0, 1));
        Check.due("the one of before", 1, () -> land.wish(0, 0, 0));
        Check.due("the one of before, of the other", 1, () -> land.wish(1, 0, 1));
        land.move();
        Due.refused("the own one after the way back", land, Due.STATE, () -> land.wish(0, 0, 0));
        Check.due("the other one after the way back", 1, () -> land.wish(0, 0, 1));
    }

    private static void promise3ThrowsIfNoSuchKeeper() {
        HutRings three = Lands.of(Lands.list(1, 2), Lands.list(), Lands.list());
        Due.refusedOutside("of three: keeper", three, 3, keeper -> three.wish(keeper, 0, 0));
        Check.due("of three: keeper 2", 1, () -> three.wish(2, 0, 0));
        HutRings ten = Lands.empty(10);
        Due.refusedOutside("of ten: keeper", ten, 10, keeper -> ten.wish(keeper, 0, 0));
        Check.due("of ten: keeper 9", 1, () -> ten.wish(9, 0, 0));
    }

    private static void promise3ThrowsIfNoSuchHut() {
        HutRings three = Lands.of(Lands.list(1), Lands.list(), Lands.list());
        Due.refusedOutside("of three: hut", three, 3, hut -> three.wish(1, 0, hut));
        Check.due("of three: hut 2", 2, () -> three.wish(0, 0, 2));
        HutRings ten = Lands.empty(10);
        Due.refusedOutside("of ten: hut", ten, 10, hut -> ten.wish(1, 0, hut));
        Check.due("of ten: hut 9", 1, () -> ten.wish(1, 0, 9));
        Check.due("of ten: hut 0", 2, () -> ten.wish(1, 0, 0));
    }

    private static void promise3ThrowsIfNoSuchPlace() {
        HutRings land = Lands.empty(10);
        for (int length = 0; length < 9; length++) {
            int end = length + 1;
            Due.refusedOutside("a list of " + length + ": place", land, end, place -> land.wish(0, place, end));
            Check.due("a list of " + length + ": the length", end, () -> land.wish(0, end - 1, end));
        }
        Due.refusedOutside("a full list: place", land, 10, place -> land.wish(0, place, 1));
        Check.due("place 0 of a list that is empty", 1, () -> land.wish(1, 0, 0));
        Check.due("place 0 of a list that is not", 2, () -> land.wish(1, 0, 2));
    }

    private static void promise3ThrowsIfOwn() {
        HutRings empty = Lands.empty(10);
        HutRings full = Lands.full();
        for (int number = 0; number < 10; number++) {
            int keeper = number;
            Due.refused("an empty list", empty, Due.STATE, () -> empty.wish(keeper, 0, keeper));
            Due.refused("a full list, at 0", full, Due.STATE, () -> full.wish(keeper, 0, keeper));
            Due.refused("a full list, at the length", full, Due.STATE, () -> full.wish(keeper, 9, keeper));
        }
        HutRings one = Lands.empty(1);
        Due.refused("the only hut", one, Due.STATE, () -> one.wish(0, 0, 0));
    }

    private static void promise3ThrowsIfInTheList() {
        HutRings full = Lands.full();
        for (int number = 1; number < 10; number++) {
            int hut = number;
            Due.refused("a full list, at 0: hut " + hut, full, Due.STATE, () -> full.wish(0, 0, hut));
            Due.refused("a full list, at the length: hut " + hut, full, Due.STATE, () -> full.wish(0, 9, hut));
        }
        HutRings single = Lands.of(Lands.list(1), Lands.list());
        Due.refused("the only one, at its place", single, Due.STATE, () -> single.wish(0, 0, 1));
        Due.refused("the only one, behind it", single, Due.STATE, () -> single.wish(0, 1, 1));
    }

    private static void promise4TakenOut() {
        HutRings single = Lands.of(Lands.list(1), Lands.list(0));
        single.drop(0, 0);
        Due.list("the only one", single, 0);
        Due.list("the list of another", single, 1, 0);
        Due.told("the only one: all get the own one then", single, 2, 0, 1);
        Due.kept("the only one: has no rank any more", single, -1, () -> single.rank(0, 1));
        HutRings full = Lands.full();
        full.drop(0, 8);
        Due.list("the last of a full list", full, 0, 1, 2, 3, 4, 5, 6, 7, 8);
        full.drop(0, 0);
        Due.list("the first of a full list", full, 0, 2, 3, 4, 5, 6, 7, 8);
        Due.points("the first of a full list: points at the next then", full, 0, 2, -1);
        Due.told("the first of a full list: the ring leaves one out", full, 4, 9, 1, 9, 9, 9, 9, 9, 9, 9, 9);
        full.drop(9, 4);
        Due.list("one in between", full, 9, 0, 1, 2, 3, 5, 6, 7, 8);
    }

    private static void promise4ReturnsIt() {
        HutRings land = Lands.full();
        Check.due("the last of a full list", 9, () -> land.drop(0, 8));
        Check.due("the first", 1, () -> land.drop(0, 0));
        Check.due("one in between", 5, () -> land.drop(0, 3));
        Due.list("what is left", land, 0, 2, 3, 4, 6, 7, 8);
        Due.list("the list of another", land, 9, 0, 1, 2, 3, 4, 5, 6, 7, 8);
        int[] left = {2, 3, 4, 6, 7, 8};
        for (int hut : left) {
            Check.due("till none is left", hut, () -> land.drop(0, 0));
        }
        Due.list("none is left", land, 0);
    }

    private static void promise4ThrowsIfNoSuchKeeper() {
        HutRings two = Lands.of(Lands.list(1), Lands.list(0));
        Due.refusedOutside("of two: keeper", two, 2, keeper -> two.drop(keeper, 0));
        Check.due("of two: keeper 1", 0, () -> two.drop(1, 0));
        HutRings ten = Lands.full();
        Due.refusedOutside("of ten: keeper", ten, 10, keeper -> ten.drop(keeper, 0));
        Check.due("of ten: keeper 9", 0, () -> ten.drop(9, 0));
        Check.due("of ten: keeper 0", 1, () -> ten.drop(0, 0));
    }

    private static void promise4ThrowsIfNoSuchPlace() {
        HutRings land = Lands.full();
        for (int length = 9; length > 0; length--) {
            int end = length;
            Due.refusedOutside("a list of " + end + ": place", land, end, place -> land.drop(0, place));
            Check.due("a list of " + end + ": the last", end, () -> land.drop(0, end - 1));
        }
        Due.refusedOutside("an emptied list: place", land, 0, place -> land.drop(0, place));
        Due.refused("an emptied list: place 0", land, Due.INDEX, () -> land.drop(0, 0));
        HutRings empty = Lands.empty(1);
        Due.refused("a list that was always empty", empty, Due.INDEX, () -> empty.drop(0, 0));
    }

    private static void promise5HutThere() {
        HutRings land = Lands.full();
        for (int number = 0; number < 9; number++) {
            int place = number;
            Due.kept("of keeper 0, at " + place, land, place + 1, () -> land.list(0, place));
            Due.kept("of keeper 9, at " + place, land, place, () -> land.list(9, place));
        }
        HutRings single = Lands.of(Lands.list(1), Lands.list());
        Due.kept("the only one", single, 1, () -> single.list(0, 0));
    }

    private static void promise5ThrowsIfNoSuchKeeper() {
        HutRings two = Lands.of(Lands.list(1), Lands.list(0));
        Due.refusedOutside("of two: keeper", two, 2, keeper -> two.list(keeper, 0));
        HutRings ten = Lands.full();
        Due.refusedOutside("of ten: keeper", ten, 10, keeper -> ten.list(keeper, 0));
    }

    private static void promise5ThrowsIfNoSuchPlace() {
        HutRings land = Lands.full();
        for (int length = 9; length > 0; length--) {
            int end = length;
            Due.refusedOutside("a list of " + end + ": place", land, end, place -> land.list(0, place));
            Due.kept("a list of " + end + ": the last", land, end, () -> land.list(0, end - 1));
            land.drop(0, end - 1);
        }
        Due.refusedOutside("an emptied list: place", land, 0, place -> land.list(0, place));
        Due.refused("an emptied list: place 0", land, Due.INDEX, () -> land.list(0, 0));
        HutRings moved = Lands.of(Lands.list(1, 2), Lands.list(0), Lands.list());
        moved.move();
        Due.refused("a list that a move emptied", moved, Due.INDEX, () -> moved.list(0, 0));
    }
}
