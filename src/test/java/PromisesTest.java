/** One test or more for each promise of the document: ordinary inputs, edges, wrong inputs. */
public final class PromisesTest {
    private static final Class<IndexOutOfBoundsException> INDEX = IndexOutOfBoundsException.class;
    private static final Class<IllegalStateException> STATE = IllegalStateException.class;
    private static final Class<IllegalArgumentException> ARGUMENT = IllegalArgumentException.class;
    private static final int LEAST = Integer.MIN_VALUE;
    private static final int GREATEST = Integer.MAX_VALUE;

    private PromisesTest() {
    }

    public static void main(String[] args) {
        promise1NewObject();
        promise2Come();
        promise3Wish();
        promise3WishWrong();
        promise4Drop();
        promise5List();
        promise6Told();
        promise7Points();
        promise8Rank();
        promise9Count();
        promise9CountOfManyRings();
        promise10Swaps();
        promise11Without();
        promise12Feign();
        promise13Move();
        promise13MovedHutsInWhatWouldBe();
        promise13MoveOfOwnHuts();
        promise14Mean();
        promise15Digest();
        longestLand();
        Check.end("PromisesTest");
    }

    /** Checks a call that throws: the exception, and that nothing is changed. */
    private static void refused(String what, HutRings land, Class<? extends RuntimeException> want, Check.Call call) {
        String before = Lands.all(land);
        Check.dueThrow(what, want, call);
        Check.same(what + " changes nothing", before, Lands.all(land));
    }

    private static void kept(String what, HutRings land, long want, Check.Call call) {
        String before = Lands.all(land);
        Check.due(what, want, call);
        Check.same(what + " changes nothing", before, Lands.all(land));
    }

    private static void dueMean(String what, double want, HutRings land) {
        Check.due(what, Double.doubleToLongBits(want), () -> Double.doubleToLongBits(land.mean()));
    }

    private static void dueCounts(String what, HutRings land, int... want) {
        for (int i = 0; i < want.length; i++) {
            int which = i;
            Check.due(what + ": count(" + which + ")", want[which], () -> land.count(which));
        }
    }

    private static void dueTold(String text, HutRings land, int what, int... want) {
        for (int i = 0; i < want.length; i++) {
            int keeper = i;
            Check.due(text + ": told(" + keeper + ", " + what + ")", want[keeper], () -> land.told(keeper, what));
        }
    }

    private static void dueList(String text, HutRings land, int keeper, int... want) {
        Check.due(text + ": length", want.length, () -> land.told(keeper, 1));
        for (int i = 0; i < want.length; i++) {
            int place = i;
            Check.due(text + ": list(" + keeper + ", " + place + ")", want[place], () -> land.list(keeper, place));
        }
    }

    private static void duePoints(String text, HutRings land, int keeper, int... want) {
        for (int i = 0; i < want.length; i++) {
            int round = i + 1;
            Check.due(text + ": points(" + keeper + ", " + round + ")", want[i], () -> land.points(keeper, round));
        }
    }

    private static void promise1NewObject() {
        HutRings land = new HutRings();
        dueCounts("new", land, 0, 0, 0, 0, 0, 0);
        dueMean("new: mean", 0.0, land);
        Check.due("new: move", 0, land::move);
        Check.due("new: digest", 1259L * 31 * 31 * 31 * 31 * 31 * 31, land::digest);
        refused("new: told", land, INDEX, () -> land.told(0, 0));
        refused("new: wish", land, INDEX, () -> land.wish(0, 0, 0));
        refused("new: drop", land, INDEX, () -> land.drop(0, 0));
        refused("new: list", land, INDEX, () -> land.list(0, 0));
        HutRings other = new HutRings();
        other.come();
        dueCounts("another object has its own land", land, 0, 0, 0, 0, 0, 0);
    }

    private static void promise2Come() {
        HutRings land = new HutRings();
        for (int i = 0; i < 10; i++) {
            int keeper = i;
            Check.due("come as " + keeper, keeper, land::come);
            Check.due("come: count", keeper + 1, () -> land.count(0));
            Check.due("come: own hut", keeper, () -> land.told(keeper, 0));
            Check.due("come: empty list", 0, () -> land.told(keeper, 1));
            Check.due("come: gets the own hut", keeper, () -> land.told(keeper, 2));
        }
        refused("come as 11th", land, STATE, land::come);
        HutRings moved = Lands.of(Lands.list(1), Lands.list(0));
        moved.move();
        Check.due("come after a move", 2, moved::come);
        dueTold("come after a move", moved, 0, 1, 0, 2);
    }

    private static void promise3Wish() {
        HutRings land = Lands.empty(10);
        Check.due("wish the first", 1, () -> land.wish(2, 0, 5));
        Check.due("wish behind it", 2, () -> land.wish(2, 1, 7));
        Check.due("wish ahead", 3, () -> land.wish(2, 0, 9));
        Check.due("wish in between", 4, () -> land.wish(2, 1, 0));
        dueList("wish", land, 2, 9, 0, 5, 7);
        dueList("wish: other keeper", land, 1);
        dueList("wish: other keeper", land, 3);
        Check.due("wish: nobody points back", 2, () -> land.told(2, 2));
        land.wish(9, 0, 2);
        Check.due("wish: the ring is told at once", 9, () -> land.told(2, 2));
        for (int hut = 1; hut < 10; hut++) {
            int liked = hut;
            Check.due("wish all huts", hut, () -> land.wish(0, 0, liked));
        }
        dueList("wish all huts", land, 0, 9, 8, 7, 6, 5, 4, 3, 2, 1);
        refused("wish one of all again", land, STATE, () -> land.wish(0, 9, 4));
        refused("wish the own one into a full list", land, STATE, () -> land.wish(0, 9, 0));
    }

    private static void promise3WishWrong() {
        HutRings land = Lands.of(Lands.list(1, 2), Lands.list(), Lands.list());
        refused("wish: keeper -1", land, INDEX, () -> land.wish(-1, 0, 0));
        refused("wish: keeper 3", land, INDEX, () -> land.wish(3, 0, 0));
        refused("wish: keeper least", land, INDEX, () -> land.wish(LEAST, 0, 0));
        refused("wish: keeper greatest", land, INDEX, () -> land.wish(GREATEST, 0, 0));
        refused("wish: hut -1", land, INDEX, () -> land.wish(1, 0, -1));
        refused("wish: hut 3", land, INDEX, () -> land.wish(1, 0, 3));
        refused("wish: hut least", land, INDEX, () -> land.wish(1, 0, LEAST));
        refused("wish: hut greatest", land, INDEX, () -> land.wish(1, 0, GREATEST));
        refused("wish: place -1", land, INDEX, () -> land.wish(1, -1, 0));
        refused("wish: place 1 of an empty list", land, INDEX, () -> land.wish(1, 1, 0));
        refused("wish: place least", land, INDEX, () -> land.wish(1, LEAST, 0));
        refused("wish: place greatest", land, INDEX, () -> land.wish(1, GREATEST, 0));
        refused("wish: own hut", land, STATE, () -> land.wish(1, 0, 1));
        refused("wish: in the list", land, STATE, () -> land.wish(0, 0, 2));
        refused("wish: in the list, first", land, STATE, () -> land.wish(0, 2, 1));
        refused("wish: place ahead of own hut", land, INDEX, () -> land.wish(0, 3, 0));
        refused("wish: place ahead of in the list", land, INDEX, () -> land.wish(0, -1, 1));
        HutRings moved = Lands.of(Lands.list(1), Lands.list(0));
        moved.move();
        refused("wish: own hut after a move", moved, STATE, () -> moved.wish(0, 0, 1));
        Check.due("wish: the old hut after a move", 1, () -> moved.wish(0, 0, 0));
    }

    private static void promise4Drop() {
        HutRings land = Lands.of(Lands.list(3, 1, 2), Lands.list(0), Lands.list(), Lands.list());
        refused("drop: place 3 of 3", land, INDEX, () -> land.drop(0, 3));
        refused("drop: place -1", land, INDEX, () -> land.drop(0, -1));
        refused("drop: place least", land, INDEX, () -> land.drop(0, LEAST));
        refused("drop: place greatest", land, INDEX, () -> land.drop(0, GREATEST));
        refused("drop: empty list", land, INDEX, () -> land.drop(2, 0));
        refused("drop: keeper -1", land, INDEX, () -> land.drop(-1, 0));
        refused("drop: keeper 4", land, INDEX, () -> land.drop(4, 0));
        dueTold("ahead of drop", land, 3, 2, 2, 1, 1);
        Check.due("drop the first", 3, () -> land.drop(0, 0));
        dueList("drop the first", land, 0, 1, 2);
        dueTold("drop: the ring is told at once", land, 3, 1, 1, 1, 1);
        Check.due("drop the last", 2, () -> land.drop(0, 1));
        dueList("drop the last", land, 0, 1);
        Check.due("drop the only one", 1, () -> land.drop(0, 0));
        dueList("drop the only one", land, 0);
        dueList("drop: other keeper", land, 1, 0);
        HutRings last = Lands.of(Lands.list(), Lands.list(0));
        Check.due("drop from the last keeper", 0, () -> last.drop(1, 0));
        dueList("drop from the last keeper", last, 1);
        HutRings middle = Lands.of(Lands.list(3, 1, 2), Lands.list(), Lands.list(), Lands.list());
        Check.due("drop in between", 1, () -> middle.drop(0, 1));
        dueList("drop in between", middle, 0, 3, 2);
        Check.due("a dropped hut can be wished", 3, () -> middle.wish(0, 2, 1));
    }

    private static void promise5List() {
        HutRings land = Lands.of(Lands.list(2, 1), Lands.list(), Lands.list(1));
        kept("list first", land, 2, () -> land.list(0, 0));
        kept("list last", land, 1, () -> land.list(0, 1));
        kept("list of another", land, 1, () -> land.list(2, 0));
        refused("list: place 2 of 2", land, INDEX, () -> land.list(0, 2));
        refused("list: place -1", land, INDEX, () -> land.list(0, -1));
        refused("list: place least", land, INDEX, () -> land.list(0, LEAST));
        refused("list: place greatest", land, INDEX, () -> land.list(0, GREATEST));
        refused("list: empty", land, INDEX, () -> land.list(1, 0));
        refused("list: keeper -1", land, INDEX, () -> land.list(-1, 0));
        refused("list: keeper 3", land, INDEX, () -> land.list(3, 0));
        refused("list: keeper greatest", land, INDEX, () -> land.list(GREATEST, 0));
    }

    private static void promise6Told() {
        HutRings land = Lands.six();
        dueTold("huts", land, 0, 0, 1, 2, 3, 4, 5);
        dueTold("lengths", land, 1, 1, 2, 1, 2, 2, 2);
        dueTold("got", land, 2, 1, 2, 0, 4, 3, 5);
        dueTold("rounds", land, 3, 1, 1, 1, 2, 2, 3);
        dueTold("ring sizes", land, 4, 3, 3, 3, 2, 2, 1);
        dueTold("ranks", land, 5, 0, 0, 0, 1, 1, 2);
        kept("told", land, 1, () -> land.told(0, 2));
        refused("told: what -1", land, INDEX, () -> land.told(0, -1));
        refused("told: what 6", land, INDEX, () -> land.told(0, 6));
        refused("told: what least", land, INDEX, () -> land.told(0, LEAST));
        refused("told: what greatest", land, INDEX, () -> land.told(0, GREATEST));
        refused("told: keeper -1", land, INDEX, () -> land.told(-1, 0));
        refused("told: keeper 6", land, INDEX, () -> land.told(6, 0));
        refused("told: keeper least", land, INDEX, () -> land.told(LEAST, 0));
        refused("told: keeper greatest", land, INDEX, () -> land.told(GREATEST, 0));
    }

    private static void promise7Points() {
        HutRings land = Lands.six();
        duePoints("first ring", land, 0, 1, -1, -1, -1);
        duePoints("first ring", land, 1, 2, -1, -1, -1);
        duePoints("first ring", land, 2, 0, -1, -1, -1);
        duePoints("second ring", land, 3, 0, 4, -1, -1);
        duePoints("second ring", land, 4, 1, 3, -1, -1);
        duePoints("at the own one at last", land, 5, 3, 3, 5, -1, -1);
        kept("points: greatest round", land, -1, () -> land.points(5, GREATEST));
        refused("points: round 0", land, ARGUMENT, () -> land.points(0, 0));
        refused("points: round -1", land, ARGUMENT, () -> land.points(5, -1));
        refused("points: round least", land, ARGUMENT, () -> land.points(5, LEAST));
        refused("points: keeper -1", land, INDEX, () -> land.points(-1, 1));
        refused("points: keeper 6", land, INDEX, () -> land.points(6, 1));
        refused("points: keeper ahead of round", land, INDEX, () -> land.points(6, 0));
        land.move();
        duePoints("at the keeper of the hut, not at its number", land, 3, 2, 3, -1);
        duePoints("at the keeper of the hut, not at its number", land, 4, 0, 4, -1);
        duePoints("at the keeper of the hut, not at its number", land, 5, 4, 4, 5, -1);
        duePoints("at the own one", land, 0, 0, -1);
    }

    private static void promise8Rank() {
        HutRings land = Lands.of(Lands.list(2, 1), Lands.list(), Lands.list(1), Lands.list());
        kept("rank of the first", land, 0, () -> land.rank(0, 2));
        kept("rank of the last", land, 1, () -> land.rank(0, 1));
        kept("rank of the own one", land, 2, () -> land.rank(0, 0));
        kept("rank of no one", land, -1, () -> land.rank(0, 3));
        kept("rank of the own one, empty list", land, 0, () -> land.rank(1, 1));
        kept("rank of no one, empty list", land, -1, () -> land.rank(1, 0));
        refused("rank: keeper -1", land, INDEX, () -> land.rank(-1, 0));
        refused("rank: keeper 4", land, INDEX, () -> land.rank(4, 0));
        refused("rank: hut -1", land, INDEX, () -> land.rank(0, -1));
        refused("rank: hut 4", land, INDEX, () -> land.rank(0, 4));
        refused("rank: hut least", land, INDEX, () -> land.rank(0, LEAST));
        refused("rank: hut greatest", land, INDEX, () -> land.rank(0, GREATEST));
        HutRings moved = Lands.of(Lands.list(1), Lands.list(0));
        moved.move();
        kept("rank of the new own one", moved, 0, () -> moved.rank(0, 1));
        kept("rank of the old own one", moved, -1, () -> moved.rank(0, 0));
    }

    private static void promise9Count() {
        HutRings land = Lands.six();
        dueCounts("six", land, 6, 3, 2, 5, 4, 3);
        kept("count", land, 6, () -> land.count(0));
        refused("count: what -1", land, INDEX, () -> land.count(-1));
        refused("count: what 6", land, INDEX, () -> land.count(6));
        refused("count: what least", land, INDEX, () -> land.count(LEAST));
        refused("count: what greatest", land, INDEX, () -> land.count(GREATEST));
        dueCounts("one alone", Lands.empty(1), 1, 1, 0, 0, 0, 1);
        dueCounts("ten alone", Lands.empty(10), 10, 1, 0, 0, 0, 1);
    }

    private static void promise9CountOfManyRings() {
        HutRings pairs = Lands.of(Lands.list(1), Lands.list(0), Lands.list(3), Lands.list(2),
                Lands.list(5), Lands.list(4), Lands.list(7), Lands.list(6), Lands.list(9), Lands.list(8));
        dueCounts("five pairs", pairs, 10, 1, 5, 10, 0, 2);
        HutRings ring = Lands.of(Lands.list(1), Lands.list(2), Lands.list(3), Lands.list(4), Lands.list(5),
                Lands.list(6), Lands.list(7), Lands.list(8), Lands.list(9), Lands.list(0));
        dueCounts("a ring of ten", ring, 10, 1, 1, 10, 0, 10);
        dueTold("a ring of ten", ring, 4, 10, 10, 10, 10, 10, 10, 10, 10, 10, 10);
        HutRings crossed = Lands.of(Lands.list(2), Lands.list(3), Lands.list(4), Lands.list(1), Lands.list(0));
        dueCounts("a ring of three and a pair between", crossed, 5, 1, 2, 5, 0, 3);
    }

    private static void promise10Swaps() {
        HutRings land = Lands.six();
        for (int first = 0; first < 6; first++) {
            for (int second = 0; second < 6; second++) {
                int a = first;
                int b = second;
                // No two ever both had rather swap: whoever is done first took the best hut still there.
                kept("swaps(" + a + ", " + b + ")", land, 0, () -> land.swaps(a, b) ? 1 : 0);
            }
        }
        refused("swaps: a -1", land, INDEX, () -> land.swaps(-1, 0) ? 1 : 0);
        refused("swaps: a 6", land, INDEX, () -> land.swaps(6, 0) ? 1 : 0);
        refused("swaps: b -1", land, INDEX, () -> land.swaps(0, -1) ? 1 : 0);
        refused("swaps: b 6", land, INDEX, () -> land.swaps(0, 6) ? 1 : 0);
        refused("swaps: both", land, INDEX, () -> land.swaps(LEAST, GREATEST) ? 1 : 0);
    }

    private static void promise11Without() {
        HutRings land = Lands.six();
        kept("without the one pointed at", land, 0, () -> land.without(0, 1));
        kept("without one further in the ring", land, 1, () -> land.without(1, 0));
        kept("without one, the rest of the ring", land, 2, () -> land.without(2, 1));
        kept("without one, a ring of two is left", land, 0, () -> land.without(1, 2));
        kept("without one, a ring of two is left", land, 1, () -> land.without(0, 2));
        kept("without one who does not matter", land, 4, () -> land.without(3, 5));
        kept("without the one of the second round", land, 3, () -> land.without(3, 4));
        kept("without the one of the second round", land, 5, () -> land.without(5, 4));
        kept("without the one ahead in the list", land, 3, () -> land.without(4, 0));
        refused("without: both the same", land, ARGUMENT, () -> land.without(2, 2));
        refused("without: keeper -1", land, INDEX, () -> land.without(-1, 0));
        refused("without: keeper 6", land, INDEX, () -> land.without(6, 0));
        refused("without: other -1", land, INDEX, () -> land.without(0, -1));
        refused("without: other 6", land, INDEX, () -> land.without(0, 6));
        refused("without: no such keeper ahead of the same", land, INDEX, () -> land.without(6, 6));
        refused("without: no such keeper ahead of the same", land, INDEX, () -> land.without(-1, -1));
    }

    private static void promise12Feign() {
        HutRings land = Lands.six();
        kept("feign a ring with a later one", land, 3, () -> land.feign(0, 3));
        kept("feign what is so", land, 1, () -> land.feign(0, 1));
        kept("feign the own one", land, 0, () -> land.feign(0, 0));
        kept("feign the own one", land, 3, () -> land.feign(3, 3));
        kept("feign a hut that goes ahead", land, 4, () -> land.feign(4, 0));
        kept("feign, the true list does not count behind it", land, 3, () -> land.feign(3, 1));
        kept("feign a hut whose keeper comes to point back", land, 5, () -> land.feign(3, 5));
        refused("feign: keeper -1", land, INDEX, () -> land.feign(-1, 0));
        refused("feign: keeper 6", land, INDEX, () -> land.feign(6, 0));
        refused("feign: hut -1", land, INDEX, () -> land.feign(0, -1));
        refused("feign: hut 6", land, INDEX, () -> land.feign(0, 6));
        refused("feign: hut least", land, INDEX, () -> land.feign(0, LEAST));
        refused("feign: hut greatest", land, INDEX, () -> land.feign(0, GREATEST));
        kept("without after feign", land, 4, () -> land.without(3, 5));
        kept("feign after without", land, 3, () -> land.feign(0, 3));
    }

    private static void promise13Move() {
        HutRings land = Lands.six();
        Check.due("move", 5, land::move);
        dueTold("move", land, 0, 1, 2, 0, 4, 3, 5);
        dueList("move: cut", land, 0);
        dueList("move: cut with all behind", land, 1);
        dueList("move: cut", land, 2);
        dueList("move: cut behind the first", land, 3, 0);
        dueList("move: cut behind the first", land, 4, 1);
        dueList("move: the own one cuts nothing", land, 5, 3, 0);
        dueTold("move: next rings", land, 2, 1, 2, 0, 4, 3, 5);
        dueTold("move: next rounds", land, 3, 1, 1, 1, 2, 2, 3);
        dueTold("move: next ring sizes", land, 4, 1, 1, 1, 1, 1, 1);
        dueTold("move: next ranks", land, 5, 0, 0, 0, 1, 1, 2);
        String before = Lands.all(land);
        Check.due("move again", 0, land::move);
        Check.same("move again changes nothing", before, Lands.all(land));
        Check.due("wish after a move", 2, () -> land.wish(3, 1, 5));
        land.wish(5, 0, 4);
        Check.due("move a third time", 2, land::move);
        dueTold("move a third time", land, 0, 1, 2, 0, 5, 3, 4);
        dueList("move a third time", land, 3, 0);
        dueList("move a third time", land, 5);
    }

    private static void promise13MovedHutsInWhatWouldBe() {
        HutRings land = Lands.six();
        land.move();
        // Now 0 has hut 1, 1 has 2, 2 has 0, 3 has 4, 4 has 3 and 5 has 5.
        land.wish(0, 0, 4);
        land.wish(2, 0, 1);
        dueTold("a ring after a move", land, 2, 4, 2, 1, 0, 3, 5);
        kept("without after a move: the hut that the other has now", land, 1, () -> land.without(0, 2));
        kept("without after a move: the hut that the other has now", land, 4, () -> land.without(3, 2));
        kept("without after a move: a hut by its number only", land, 4, () -> land.without(0, 4));
        kept("feign after a move: the own one", land, 1, () -> land.feign(0, 1));
        kept("feign after a move: the old own one", land, 0, () -> land.feign(0, 0));
        kept("feign after a move: a hut that goes ahead", land, 3, () -> land.feign(4, 1));
    }

    private static void promise13MoveOfOwnHuts() {
        HutRings land = Lands.of(Lands.list(1, 2), Lands.list(), Lands.list());
        String before = Lands.all(land);
        Check.due("move of own huts", 0, land::move);
        Check.same("move of own huts changes nothing", before, Lands.all(land));
        HutRings cut = Lands.of(Lands.list(2, 1, 3), Lands.list(0), Lands.list(), Lands.list());
        Check.due("move with a cut in between", 2, cut::move);
        dueList("move with a cut in between", cut, 0, 2);
        dueTold("move with a cut in between", cut, 0, 1, 0, 2, 3);
    }

    private static void promise14Mean() {
        dueMean("mean of six", 10.0 / 6, Lands.six());
        dueMean("mean of one", 1.0, Lands.empty(1));
        dueMean("mean of ten", 1.0, Lands.empty(10));
        dueMean("mean of none", 0.0, new HutRings());
        dueMean("mean with a half", 1.5, Lands.of(Lands.list(1), Lands.list()));
        HutRings land = Lands.six();
        kept("mean", land, Double.doubleToLongBits(10.0 / 6), () -> Double.doubleToLongBits(land.mean()));
    }

    private static void promise15Digest() {
        Check.due("digest of one", digestOf(1, 1, 0, 0, 0, 1, 0, 0, 0, 1, 1, 0, 0), () -> Lands.empty(1).digest());
        HutRings two = Lands.of(Lands.list(1), Lands.list());
        long want = digestOf(2, 2, 0, 0, 1, 1, 0, 1, 0, 2, 1, 1, 1, 1, 1, 0, 1, 1, 1, 0, 1);
        kept("digest of two", two, want, two::digest);
        HutRings land = Lands.six();
        long wantSix = digestOf(6, 3, 2, 5, 4, 3,
                0, 1, 1, 1, 3, 0, 1, 1,
                1, 2, 2, 1, 3, 0, 2, 0, 2,
                2, 1, 0, 1, 3, 0, 0, 0,
                3, 2, 4, 2, 2, 1, 0, 4, 0,
                4, 2, 3, 2, 2, 1, 1, 3, 1,
                5, 2, 5, 3, 1, 2, 3, 0, 3);
        kept("digest of six", land, wantSix, land::digest);
    }

    private static long digestOf(int... numbers) {
        long sum = 1259;
        for (int number : numbers) {
            sum = sum * 31 + number;
        }
        return sum;
    }

    /** Each keeper likes all that come ahead, so that one alone is done in each of ten rounds. */
    private static void longestLand() {
        HutRings land = new HutRings();
        for (int keeper = 0; keeper < 10; keeper++) {
            land.come();
            for (int hut = 0; hut < keeper; hut++) {
                land.wish(keeper, hut, hut);
            }
        }
        dueCounts("ten rounds", land, 10, 10, 0, 0, 45, 1);
        dueTold("ten rounds", land, 3, 1, 2, 3, 4, 5, 6, 7, 8, 9, 10);
        duePoints("ten rounds", land, 9, 0, 1, 2, 3, 4, 5, 6, 7, 8, 9, -1);
        dueMean("ten rounds", 5.5, land);
        kept("ten rounds: without the first", land, 9, () -> land.without(9, 0));
        kept("ten rounds: feign", land, 9, () -> land.feign(9, 8));
    }
}
