/** One test or more for each promise of the document: ordinary inputs, edges, wrong inputs. */
public final class PromisesTest {
    private PromisesTest() {
    }

    public static void main(String[] args) {
        promise1NewObject();
        promise2Come();
        promise3Wish();
        promise3WishWrong();
        promise4Drop();
        promise5List();
        promise6Told();
        promise7Points();
        promise8Rank();
        promise9Count();
        promise9CountOfManyRings();
        promise10Swaps();
        promise11Without();
        promise12Feign();
        promise13Move();
        promise13MovedHutsInWhatWouldBe();
        promise13MoveOfOwnHuts();
        promise14Mean();
        promise15Digest();
        longestLand();
        Check.end("PromisesTest");
    }

    private static void promise1NewObject() {
        HutRings land = new HutRings();
        Due.counts("new", land, 0, 0, 0, 0, 0, 0);
        Due.mean("new: mean", 0.0, land);
        Check.due("new: move", 0, land::move);
        Check.due("new: digest", 1259L * 31 * 31 * 31 * 31 * 31 * 31, land::digest);
        Due.refused("new: told", land, Due.INDEX, () -> land.told(0, 0));
        Due.refused("new: wish", land, Due.INDEX, () -> land.wish(0, 0, 0));
        Due.refused("new: drop", land, Due.INDEX, () -> land.drop(0, 0));
        Due.refused("new: list", land, Due.INDEX, () -> land.list(0, 0));
        HutRings other = new HutRings();
        other.come();
        Due.counts("another object has its own land", land, 0, 0, 0, 0, 0, 0);
    }

    private static void promise2Come() {
        HutRings land = new HutRings();
        for (int i = 0; i < 10; i++) {
            int keeper = i;
            Check.due("come as " + keeper, keeper, land::come);
            Check.due("come: count", keeper + 1, () -> land.count(0));
            Check.due("come: own hut", keeper, () -> land.told(keeper, 0));
            Check.due("come: empty list", 0, () -> land.told(keeper, 1));
            Check.due("come: gets the own hut", keeper, () -> land.told(keeper, 2));
        }
        Due.refused("come as 11th", land, Due.STATE, land::come);
        HutRings moved = Lands.of(Lands.list(1), Lands.list(0));
        moved.move();
        Check.due("come after a move", 2, moved::come);
        Due.told("come after a move", moved, 0, 1, 0, 2);
    }

    private static void promise3Wish() {
        HutRings land = Lands.empty(10);
        Check.due("wish the first", 1, () -> land.wish(2, 0, 5));
        Check.due("wish behind it", 2, () -> land.wish(2, 1, 7));
        Check.due("wish ahead", 3, () -> land.wish(2, 0, 9));
        Check.due("wish in between", 4, () -> land.wish(2, 1, 0));
        Due.list("wish", land, 2, 9, 0, 5, 7);
        Due.list("wish: other keeper", land, 1);
        Due.list("wish: other keeper", land, 3);
        Check.due("wish: nobody points back", 2, () -> land.told(2, 2));
        land.wish(9, 0, 2);
        Check.due("wish: the ring is told at once", 9, () -> land.told(2, 2));
        for (int hut = 1; hut < 10; hut++) {
            int liked = hut;
            Check.due("wish all huts", hut, () -> land.wish(0, 0, liked));
        }
        Due.list("wish all huts", land, 0, 9, 8, 7, 6, 5, 4, 3, 2, 1);
        Due.refused("wish one of all again", land, Due.STATE, () -> land.wish(0, 9, 4));
        Due.refused("wish the own one into a full list", land, Due.STATE, () -> land.wish(0, 9, 0));
    }

    private static void promise3WishWrong() {
        HutRings land = Lands.of(Lands.list(1, 2), Lands.list(), Lands.list());
        Due.refused("wish: keeper -1", land, Due.INDEX, () -> land.wish(-1, 0, 0));
        Due.refused("wish: keeper 3", land, Due.INDEX, () -> land.wish(3, 0, 0));
        Due.refused("wish: keeper least", land, Due.INDEX, () -> land.wish(Due.LEAST, 0, 0));
        Due.refused("wish: keeper greatest", land, Due.INDEX, () -> land.wish(Due.GREATEST, 0, 0));
        Due.refused("wish: hut -1", land, Due.INDEX, () -> land.wish(1, 0, -1));
        Due.refused("wish: hut 3", land, Due.INDEX, () -> land.wish(1, 0, 3));
        Due.refused("wish: hut least", land, Due.INDEX, () -> land.wish(1, 0, Due.LEAST));
        Due.refused("wish: hut greatest", land, Due.INDEX, () -> land.wish(1, 0, Due.GREATEST));
        Due.refused("wish: place -1", land, Due.INDEX, () -> land.wish(1, -1, 0));
        Due.refused("wish: place 1 of an empty list", land, Due.INDEX, () -> land.wish(1, 1, 0));
        Due.refused("wish: place least", land, Due.INDEX, () -> land.wish(1, Due.LEAST, 0));
        Due.refused("wish: place greatest", land, Due.INDEX, () -> land.wish(1, Due.GREATEST, 0));
        Due.refused("wish: own hut", land, Due.STATE, () -> land.wish(1, 0, 1));
        Due.refused("wish: in the list", land, Due.STATE, () -> land.wish(0, 0, 2));
        Due.refused("wish: in the list, first", land, Due.STATE, () -> land.wish(0, 2, 1));
        Due.refused("wish: place ahead of own hut", land, Due.INDEX, () -> land.wish(0, 3, 0));
        Due.refused("wish: place ahead of in the list", land, Due.INDEX, () -> land.wish(0, -1, 1));
        HutRings moved = Lands.of(Lands.list(1), Lands.list(0));
        moved.move();
        Due.refused("wish: own hut after a move", moved, Due.STATE, () -> moved.wish(0, 0, 1));
        Check.due("wish: the old hut after a move", 1, () -> moved.wish(0, 0, 0));
    }

    private static void promise4Drop() {
        HutRings land = Lands.of(Lands.list(3, 1, 2), Lands.list(0), Lands.list(), Lands.list());
        Due.refused("drop: place 3 of 3", land, Due.INDEX, () -> land.drop(0, 3));
        Due.refused("drop: place -1", land, Due.INDEX, () -> land.drop(0, -1));
        Due.refused("drop: place least", land, Due.INDEX, () -> land.drop(0, Due.LEAST));
        Due.refused("drop: place greatest", land, Due.INDEX, () -> land.drop(0, Due.GREATEST));
        Due.refused("drop: empty list", land, Due.INDEX, () -> land.drop(2, 0));
        Due.refused("drop: keeper -1", land, Due.INDEX, () -> land.drop(-1, 0));
        Due.refused("drop: keeper 4", land, Due.INDEX, () -> land.drop(4, 0));
        Due.told("ahead of drop", land, 3, 2, 2, 1, 1);
        Check.due("drop the first", 3, () -> land.drop(0, 0));
        Due.list("drop the first", land, 0, 1, 2);
        Due.told("drop: the ring is told at once", land, 3, 1, 1, 1, 1);
        Check.due("drop the last", 2, () -> land.drop(0, 1));
        Due.list("drop the last", land, 0, 1);
        Check.due("drop the only one", 1, () -> land.drop(0, 0));
        Due.list("drop the only one", land, 0);
        Due.list("drop: other keeper", land, 1, 0);
        HutRings last = Lands.of(Lands.list(), Lands.list(0));
        Check.due("drop from the last keeper", 0, () -> last.drop(1, 0));
        Due.list("drop from the last keeper", last, 1);
        HutRings middle = Lands.of(Lands.list(3, 1, 2), Lands.list(), Lands.list(), Lands.list());
        Check.due("drop in between", 1, () -> middle.drop(0, 1));
        Due.list("drop in between", middle, 0, 3, 2);
        Check.due("a dropped hut can be wished", 3, () -> middle.wish(0, 2, 1));
    }

    private static void promise5List() {
        HutRings land = Lands.of(Lands.list(2, 1), Lands.list(), Lands.list(1));
        Due.kept("list first", land, 2, () -> land.list(0, 0));
        Due.kept("list last", land, 1, () -> land.list(0, 1));
        Due.kept("list of another", land, 1, () -> land.list(2, 0));
        Due.refused("list: place 2 of 2", land, Due.INDEX, () -> land.list(0, 2));
        Due.refused("list: place -1", land, Due.INDEX, () -> land.list(0, -1));
        Due.refused("list: place least", land, Due.INDEX, () -> land.list(0, Due.LEAST));
        Due.refused("list: place greatest", land, Due.INDEX, () -> land.list(0, Due.GREATEST));
        Due.refused("list: empty", land, Due.INDEX, () -> land.list(1, 0));
        Due.refused("list: keeper -1", land, Due.INDEX, () -> land.list(-1, 0));
        Due.refused("list: keeper 3", land, Due.INDEX, () -> land.list(3, 0));
        Due.refused("list: keeper greatest", land, Due.INDEX, () -> land.list(Due.GREATEST, 0));
    }

    private static void promise6Told() {
        HutRings land = Lands.six();
        Due.told("huts", land, 0, 0, 1, 2, 3, 4, 5);
        Due.told("lengths", land, 1, 1, 2, 1, 2, 2, 2);
        Due.told("got", land, 2, 1, 2, 0, 4, 3, 5);
        Due.told("rounds", land, 3, 1, 1, 1, 2, 2, 3);
        Due.told("ring sizes", land, 4, 3, 3, 3, 2, 2, 1);
        Due.told("ranks", land, 5, 0, 0, 0, 1, 1, 2);
        Due.kept("told", land, 1, () -> land.told(0, 2));
        Due.refused("told: what -1", land, Due.INDEX, () -> land.told(0, -1));
        Due.refused("told: what 6", land, Due.INDEX, () -> land.told(0, 6));
        Due.refused("told: what least", land, Due.INDEX, () -> land.told(0, Due.LEAST));
        Due.refused("told: what greatest", land, Due.INDEX, () -> land.told(0, Due.GREATEST));
        Due.refused("told: keeper -1", land, Due.INDEX, () -> land.told(-1, 0));
        Due.refused("told: keeper 6", land, Due.INDEX, () -> land.told(6, 0));
        Due.refused("told: keeper least", land, Due.INDEX, () -> land.told(Due.LEAST, 0));
        Due.refused("told: keeper greatest", land, Due.INDEX, () -> land.told(Due.GREATEST, 0));
    }

    private static void promise7Points() {
        HutRings land = Lands.six();
        Due.points("first ring", land, 0, 1, -1, -1, -1);
        Due.points("first ring", land, 1, 2, -1, -1, -1);
        Due.points("first ring", land, 2, 0, -1, -1, -1);
        Due.points("second ring", land, 3, 0, 4, -1, -1);
        Due.points("second ring", land, 4, 1, 3, -1, -1);
        Due.points("at the own one at last", land, 5, 3, 3, 5, -1, -1);
        Due.kept("points: greatest round", land, -1, () -> land.points(5, Due.GREATEST));
        Due.refused("points: round 0", land, Due.ARGUMENT, () -> land.points(0, 0));
        Due.refused("points: round -1", land, Due.ARGUMENT, () -> land.points(5, -1));
        Due.refused("points: round least", land, Due.ARGUMENT, () -> land.points(5, Due.LEAST));
        Due.refused("points: keeper -1", land, Due.INDEX, () -> land.points(-1, 1));
        Due.refused("points: keeper 6", land, Due.INDEX, () -> land.points(6, 1));
        Due.refused("points: keeper ahead of round", land, Due.INDEX, () -> land.points(6, 0));
        land.move();
        Due.points("at the keeper of the hut, not at its number", land, 3, 2, 3, -1);
        Due.points("at the keeper of the hut, not at its number", land, 4, 0, 4, -1);
        Due.points("at the keeper of the hut, not at its number", land, 5, 4, 4, 5, -1);
        Due.points("at the own one", land, 0, 0, -1);
    }

    private static void promise8Rank() {
        HutRings land = Lands.of(Lands.list(2, 1), Lands.list(), Lands.list(1), Lands.list());
        Due.kept("rank of the first", land, 0, () -> land.rank(0, 2));
        Due.kept("rank of the last", land, 1, () -> land.rank(0, 1));
        Due.kept("rank of the own one", land, 2, () -> land.rank(0, 0));
        Due.kept("rank of no one", land, -1, () -> land.rank(0, 3));
        Due.kept("rank of the own one, empty list", land, 0, () -> land.rank(1, 1));
        Due.kept("rank of no one, empty list", land, -1, () -> land.rank(1, 0));
        Due.refused("rank: keeper -1", land, Due.INDEX, () -> land.rank(-1, 0));
        Due.refused("rank: keeper 4", land, Due.INDEX, () -> land.rank(4, 0));
        Due.refused("rank: hut -1", land, Due.INDEX, () -> land.rank(0, -1));
        Due.refused("rank: hut 4", land, Due.INDEX, () -> land.rank(0, 4));
        Due.refused("rank: hut least", land, Due.INDEX, () -> land.rank(0, Due.LEAST));
        Due.refused("rank: hut greatest", land, Due.INDEX, () -> land.rank(0, Due.GREATEST));
        HutRings moved = Lands.of(Lands.list(1), Lands.list(0));
        moved.move();
        Due.kept("rank of the new own one", moved, 0, () -> moved.rank(0, 1));
        Due.kept("rank of the old own one", moved, -1, () -> moved.rank(0, 0));
    }

    private static void promise9Count() {
        HutRings land = Lands.six();
        Due.counts("six", land, 6, 3, 2, 5, 4, 3);
        Due.kept("count", land, 6, () -> land.count(0));
        Due.refused("count: what -1", land, Due.INDEX, () -> land.count(-1));
        Due.refused("count: what 6", land, Due.INDEX, () -> land.count(6));
        Due.refused("count: what least", land, Due.INDEX, () -> land.count(Due.LEAST));
        Due.refused("count: what greatest", land, Due.INDEX, () -> land.count(Due.GREATEST));
        Due.counts("one alone", Lands.empty(1), 1, 1, 0, 0, 0, 1);
        Due.counts("ten alone", Lands.empty(10), 10, 1, 0, 0, 0, 1);
    }

    private static void promise9CountOfManyRings() {
        HutRings pairs = Lands.of(Lands.list(1), Lands.list(0), Lands.list(3), Lands.list(2),
                Lands.list(5), Lands.list(4), Lands.list(7), Lands.list(6), Lands.list(9), Lands.list(8));
        Due.counts("five pairs", pairs, 10, 1, 5, 10, 0, 2);
        HutRings ring = Lands.ringOfTen();
        Due.counts("a ring of ten", ring, 10, 1, 1, 10, 0, 10);
        Due.told("a ring of ten", ring, 4, 10, 10, 10, 10, 10, 10, 10, 10, 10, 10);
        HutRings crossed = Lands.of(Lands.list(2), Lands.list(3), Lands.list(4), Lands.list(1), Lands.list(0));
        Due.counts("a ring of three and a pair between", crossed, 5, 1, 2, 5, 0, 3);
    }

    private static void promise10Swaps() {
        HutRings land = Lands.six();
        for (int first = 0; first < 6; first++) {
            for (int second = 0; second < 6; second++) {
                int a = first;
                int b = second;
                // No two ever both had rather swap: whoever is done first took the best hut still there.
                Due.kept("swaps(" + a + ", " + b + ")", land, 0, () -> land.swaps(a, b) ? 1 : 0);
            }
        }
        Due.refused("swaps: a -1", land, Due.INDEX, () -> land.swaps(-1, 0) ? 1 : 0);
        Due.refused("swaps: a 6", land, Due.INDEX, () -> land.swaps(6, 0) ? 1 : 0);
        Due.refused("swaps: b -1", land, Due.INDEX, () -> land.swaps(0, -1) ? 1 : 0);
        Due.refused("swaps: b 6", land, Due.INDEX, () -> land.swaps(0, 6) ? 1 : 0);
        Due.refused("swaps: both", land, Due.INDEX, () -> land.swaps(Due.LEAST, Due.GREATEST) ? 1 : 0);
    }

    private static void promise11Without() {
        HutRings land = Lands.six();
        Due.kept("without the one pointed at", land, 0, () -> land.without(0, 1));
        Due.kept("without one further in the ring", land, 1, () -> land.without(1, 0));
        Due.kept("without one, the rest of the ring", land, 2, () -> land.without(2, 1));
        Due.kept("without one, a ring of two is left", land, 0, () -> land.without(1, 2));
        Due.kept("without one, a ring of two is left", land, 1, () -> land.without(0, 2));
        Due.kept("without one who does not matter", land, 4, () -> land.without(3, 5));
        Due.kept("without the one of the second round", land, 3, () -> land.without(3, 4));
        Due.kept("without the one of the second round", land, 5, () -> land.without(5, 4));
        Due.kept("without the one ahead in the list", land, 3, () -> land.without(4, 0));
        Due.refused("without: both the same", land, Due.ARGUMENT, () -> land.without(2, 2));
        Due.refused("without: keeper -1", land, Due.INDEX, () -> land.without(-1, 0));
        Due.refused("without: keeper 6", land, Due.INDEX, () -> land.without(6, 0));
        Due.refused("without: other -1", land, Due.INDEX, () -> land.without(0, -1));
        Due.refused("without: other 6", land, Due.INDEX, () -> land.without(0, 6));
        Due.refused("without: no such keeper ahead of the same", land, Due.INDEX, () -> land.without(6, 6));
        Due.refused("without: no such keeper ahead of the same", land, Due.INDEX, () -> land.without(-1, -1));
    }

    private static void promise12Feign() {
        HutRings land = Lands.six();
        Due.kept("feign a ring with a later one", land, 3, () -> land.feign(0, 3));
        Due.kept("feign what is so", land, 1, () -> land.feign(0, 1));
        Due.kept("feign the own one", land, 0, () -> land.feign(0, 0));
        Due.kept("feign the own one", land, 3, () -> land.feign(3, 3));
        Due.kept("feign a hut that goes ahead", land, 4, () -> land.feign(4, 0));
        Due.kept("feign, the true list does not count behind it", land, 3, () -> land.feign(3, 1));
        Due.kept("feign a hut whose keeper comes to point back", land, 5, () -> land.feign(3, 5));
        Due.refused("feign: keeper -1", land, Due.INDEX, () -> land.feign(-1, 0));
        Due.refused("feign: keeper 6", land, Due.INDEX, () -> land.feign(6, 0));
        Due.refused("feign: hut -1", land, Due.INDEX, () -> land.feign(0, -1));
        Due.refused("feign: hut 6", land, Due.INDEX, () -> land.feign(0, 6));
        Due.refused("feign: hut least", land, Due.INDEX, () -> land.feign(0, Due.LEAST));
        Due.refused("feign: hut greatest", land, Due.INDEX, () -> land.feign(0, Due.GREATEST));
        Due.kept("without after feign", land, 4, () -> land.without(3, 5));
        Due.kept("feign after without", land, 3, () -> land.feign(0, 3));
    }

    private static void promise13Move() {
        HutRings land = Lands.six();
        Check.due("move", 5, land::move);
        Due.told("move", land, 0, 1, 2, 0, 4, 3, 5);
        Due.list("move: cut", land, 0);
        Due.list("move: cut with all behind", land, 1);
        Due.list("move: cut", land, 2);
        Due.list("move: cut behind the first", land, 3, 0);
        Due.list("move: cut behind the first", land, 4, 1);
        Due.list("move: the own one cuts nothing", land, 5, 3, 0);
        Due.told("move: next rings", land, 2, 1, 2, 0, 4, 3, 5);
        Due.told("move: next rounds", land, 3, 1, 1, 1, 2, 2, 3);
        Due.told("move: next ring sizes", land, 4, 1, 1, 1, 1, 1, 1);
        Due.told("move: next ranks", land, 5, 0, 0, 0, 1, 1, 2);
        String before = Lands.all(land);
        Check.due("move again", 0, land::move);
        Check.same("move again changes nothing", before, Lands.all(land));
        Check.due("wish after a move", 2, () -> land.wish(3, 1, 5));
        land.wish(5, 0, 4);
        Check.due("move a third time", 2, land::move);
        Due.told("move a third time", land, 0, 1, 2, 0, 5, 3, 4);
        Due.list("move a third time", land, 3, 0);
        Due.list("move a third time", land, 5);
    }

    private static void promise13MovedHutsInWhatWouldBe() {
        HutRings land = Lands.six();
        land.move();
        // Now 0 has hut 1, 1 has 2, 2 has 0, 3 has 4, 4 has 3 and 5 has 5.
        land.wish(0, 0, 4);
        land.wish(2, 0, 1);
        Due.told("a ring after a move", land, 2, 4, 2, 1, 0, 3, 5);
        Due.kept("without after a move: the hut that the other has now", land, 1, () -> land.without(0, 2));
        Due.kept("without after a move: the hut that the other has now", land, 4, () -> land.without(3, 2));
        Due.kept("without after a move: a hut by its number only", land, 4, () -> land.without(0, 4));
        Due.kept("feign after a move: the own one", land, 1, () -> land.feign(0, 1));
        Due.kept("feign after a move: the old own one", land, 0, () -> land.feign(0, 0));
        Due.kept("feign after a move: a hut that goes ahead", land, 3, () -> land.feign(4, 1));
    }

    private static void promise13MoveOfOwnHuts() {
        HutRings land = Lands.of(Lands.list(1, 2), Lands.list(), Lands.list());
        String before = Lands.all(land);
        Check.due("move of own huts", 0, land::move);
        Check.same("move of own huts changes nothing", before, Lands.all(land));
        HutRings cut = Lands.of(Lands.list(2, 1, 3), Lands.list(0), Lands.list(), Lands.list());
        Check.due("move with a cut in between", 2, cut::move);
        Due.list("move with a cut in between", cut, 0, 2);
        Due.told("move with a cut in between", cut, 0, 1, 0, 2, 3);
    }

    private static void promise14Mean() {
        Due.mean("mean of six", 10.0 / 6, Lands.six());
        Due.mean("mean of one", 1.0, Lands.empty(1));
        Due.mean("mean of ten", 1.0, Lands.empty(10));
        Due.mean("mean of none", 0.0, new HutRings());
        Due.mean("mean with a half", 1.5, Lands.of(Lands.list(1), Lands.list()));
        HutRings land = Lands.six();
        Due.kept("mean", land, Double.doubleToLongBits(10.0 / 6), () -> Double.doubleToLongBits(land.mean()));
    }

    private static void promise15Digest() {
        Check.due("digest of one", digestOf(1, 1, 0, 0, 0, 1, 0, 0, 0, 1, 1, 0, 0), () -> Lands.empty(1).digest());
        HutRings two = Lands.of(Lands.list(1), Lands.list());
        long want = digestOf(2, 2, 0, 0, 1, 1, 0, 1, 0, 2, 1, 1, 1, 1, 1, 0, 1, 1, 1, 0, 1);
        Due.kept("digest of two", two, want, two::digest);
        HutRings land = Lands.six();
        long wantSix = digestOf(6, 3, 2, 5, 4, 3,
                0, 1, 1, 1, 3, 0, 1, 1,
                1, 2, 2, 1, 3, 0, 2, 0, 2,
                2, 1, 0, 1, 3, 0, 0, 0,
                3, 2, 4, 2, 2, 1, 0, 4, 0,
                4, 2, 3, 2, 2, 1, 1, 3, 1,
                5, 2, 5, 3, 1, 2, 3, 0, 3);
        Due.kept("digest of six", land, wantSix, land::digest);
    }

    private static long digestOf(int... numbers) {
        long sum = 1259;
        for (int number : numbers) {
            sum = sum * 31 + number;
        }
        return sum;
    }

    private static void longestLand() {
        HutRings land = Lands.longest();
        Due.counts("ten rounds", land, 10, 10, 0, 0, 45, 1);
        Due.told("ten rounds", land, 3, 1, 2, 3, 4, 5, 6, 7, 8, 9, 10);
        Due.points("ten rounds", land, 9, 0, 1, 2, 3, 4, 5, 6, 7, 8, 9, -1);
        Due.mean("ten rounds", 5.5, land);
        Due.kept("ten rounds: without the first", land, 9, () -> land.without(9, 0));
        Due.kept("ten rounds: feign", land, 9, () -> land.feign(9, 8));
    }
}
