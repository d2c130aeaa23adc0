/** Huts that are traded in rings. */
public final class HutRings {
    private static final int MOST_KEEPERS = 10;
    private static final int NONE = -1;
    private static final long DIGEST_START = 1259L;
    private static final long DIGEST_FACTOR = 31L;
    private static final int COUNTS = 6;
    private static final int TOLDS = 6;

    private final Land land = new Land();
    private final Trade trade = new Trade(land);
    private final Trade imagined = new Trade(land);

    public HutRings() {
    }

    // ---- keepers and lists

    public int come() throws IllegalStateException {
        if (land.size() >= MOST_KEEPERS) {
            throw new IllegalStateException("there are 10 keepers");
        }
        int keeper = land.settle();
        trade.runForAll();
        return keeper;
    }

    public int wish(int keeper, int place, int hut) throws IndexOutOfBoundsException, IllegalStateException {
        needKeeper(keeper);
        needHut(hut);
        Row likes = land.likesOf(keeper);
        if (place < 0 || place > likes.size()) {
            throw new IndexOutOfBoundsException("no such place");
        }
        if (land.rankOf(keeper, hut) != NONE) {
            throw new IllegalStateException("the own hut, or in the list");
        }
        likes.insert(place, hut);
        trade.runForAll();
        return likes.size();
    }

    public int drop(int keeper, int place) throws IndexOutOfBoundsException {
        needKeeper(keeper);
        Row likes = land.likesOf(keeper);
        needPlace(likes, place);
        int hut = likes.take(place);
        trade.runForAll();
        return hut;
    }

    public int list(int keeper, int place) throws IndexOutOfBoundsException {
        needKeeper(keeper);
        Row likes = land.likesOf(keeper);
        needPlace(likes, place);
        return likes.at(place);
    }

    // ---- what the rings give

    public int told(int keeper, int what) throws IndexOutOfBoundsException {
        needKeeper(keeper);
        switch (what) {
            case 0:
                return land.hutOf(keeper);
            case 1:
                return land.likesOf(keeper).size();
            case 2:
                return trade.hutFor(keeper);
            case 3:
                return trade.roundOf(keeper);
            case 4:
                return trade.ringSizeOf(keeper);
            case 5:
                return rankOfGot(keeper);
            default:
                throw new IndexOutOfBoundsException("what is not 0 to 5");
        }
    }

    public int points(int keeper, int round) throws IndexOutOfBoundsException, IllegalArgumentException {
        needKeeper(keeper);
        if (round < 1) {
            throw new IllegalArgumentException("rounds go from 1");
        }
        return trade.isThereIn(keeper, round) ? trade.aimIn(keeper, round) : NONE;
    }

    public int rank(int keeper, int hut) throws IndexOutOfBoundsException {
        needKeeper(keeper);
        needHut(hut);
        return land.rankOf(keeper, hut);
    }

    public int count(int what) throws IndexOutOfBoundsException {
        switch (what) {
            case 0:
                return land.size();
            case 1:
                return trade.rounds();
            case 2:
                return trade.ringsOfMore();
            case 3:
                return keepersWithAnotherHut();
            case 4:
                return ranksAdded();
            case 5:
                return trade.greatestRing();
            default:
                throw new IndexOutOfBoundsException("what is not 0 to 5");
        }
    }

    // ---- what would be

    public boolean swaps(int a, int b) throws IndexOutOfBoundsException {
        needKeeper(a);
        needKeeper(b);
        return hadRather(a, trade.hutFor(b)) && hadRather(b, trade.hutFor(a));
    }

    public int without(int keeper, int other) throws IndexOutOfBoundsException, IllegalArgumentException {
        needKeeper(keeper);
        needKeeper(other);
        if (keeper == other) {
            throw new IllegalArgumentException("both are the same");
        }
        imagined.runWithout(other);
        return imagined.hutFor(keeper);
    }

    public int feign(int keeper, int hut) throws IndexOutOfBoundsException {
        needKeeper(keeper);
        needHut(hut);
        imagined.runFeigning(keeper, hut);
        return imagined.hutFor(keeper);
    }

    public int move() {
        int movers = keepersWithAnotherHut();
        for (int keeper = 0; keeper < land.size(); keeper++) {
            land.moveInto(keeper, trade.hutFor(keeper));
        }
        trade.runForAll();
        return movers;
    }

    public double mean() {
        int keepers = land.size();
        return keepers == 0 ? 0.0 : (double) trade.roundsAdded() / keepers;
    }

    public long digest() {
        long sum = DIGEST_START;
        for (int what = 0; what < COUNTS; what++) {
            sum = sum * DIGEST_FACTOR + count(what);
        }
        for (int keeper = 0; keeper < land.size(); keeper++) {
            sum = digestWithKeeper(sum, keeper);
        }
        return sum;
    }

    private long digestWithKeeper(long start, int keeper) {
        long sum = start;
        for (int what = 0; what < TOLDS; what++) {
            sum = sum * DIGEST_FACTOR + told(keeper, what);
        }
        Row likes = land.likesOf(keeper);
        for (int place = 0; place < likes.size(); place++) {
            sum = sum * DIGEST_FACTOR + likes.at(place);
        }
        return sum * DIGEST_FACTOR + points(keeper, 1);
    }

    private int rankOfGot(int keeper) {
        return land.rankOf(keeper, trade.hutFor(keeper));
    }

    private boolean hadRather(int keeper, int hut) {
        int rank = land.rankOf(keeper, hut);
        return rank != NONE && rank < rankOfGot(keeper);
    }

    private int keepersWithAnotherHut() {
        int keepers = 0;
        for (int keeper = 0; keeper < land.size(); keeper++) {
            if (trade.hutFor(keeper) != land.hutOf(keeper)) {
                keepers++;
            }
        }
        return keepers;
    }

    private int ranksAdded() {
        int sum = 0;
        for (int keeper = 0; keeper < land.size(); keeper++) {
            sum += rankOfGot(keeper);
        }
        return sum;
    }

    private void needKeeper(int keeper) {
        if (keeper < 0 || keeper >= land.size()) {
            throw new IndexOutOfBoundsException("no such keeper");
        }
    }

    private void needHut(int hut) {
        // Each keeper brings one hut, so there are as many huts as keepers.
        if (hut < 0 || hut >= land.size()) {
            throw new IndexOutOfBoundsException("no such hut");
        }
    }

    private static void needPlace(Row likes, int place) {
        if (place < 0 || place >= likes.size()) {
            throw new IndexOutOfBoundsException("no such place in the list");
        }
    }

    /** Numbers in a row, as many as there can be keepers at most; a place that is not there is left alone. */
    private static final class Row {
        private final int[] cells = new int[MOST_KEEPERS];
        private int size = 0;

        int size() {
            return size;
        }

        int at(int place) {
            return place >= 0 && place < size && place < cells.length ? cells[place] : NONE;
        }

        void put(int place, int number) {
            if (has(place)) {
                cells[place] = number;
            }
        }

        int placeOf(int number) {
            for (int place = 0; place < size && place < cells.length; place++) {
                if (cells[place] == number) {
                    return place;
                }
            }
            return NONE;
        }

        void insert(int place, int number) {
            if (place < 0 || place > size || size >= cells.length) {
                return;
            }
            size++;
            for (int to = size - 1; to > place; to--) {
                put(to, at(to - 1));
            }
            put(place, number);
        }

        int take(int place) {
            if (!has(place)) {
                return NONE;
            }
            int taken = at(place);
            for (int to = place; to < size - 1; to++) {
                put(to, at(to + 1));
            }
            size--;
            return taken;
        }

        void cutFrom(int place) {
            if (has(place)) {
                size = place;
            }
        }

        void refill(int newSize, int number) {
            size = newSize < 0 ? 0 : newSize > cells.length ? cells.length : newSize;
            for (int place = 0; place < size; place++) {
                put(place, number);
            }
        }

        int sum() {
            int sum = 0;
            for (int place = 0; place < size; place++) {
                sum += at(place);
            }
            return sum;
        }

        int greatest() {
            int greatest = 0;
            for (int place = 0; place < size; place++) {
                greatest = Math.max(greatest, at(place));
            }
            return greatest;
        }

        private boolean has(int place) {
            return place >= 0 && place < size && place < cells.length;
        }
    }

    /** Who has which hut now, and likes which ones better. */
    private static final class Land {
        private final Row huts = new Row();
        private final Row[] likes = new Row[MOST_KEEPERS];
        private final Row noLikes = new Row();

        Land() {
            for (int keeper = 0; keeper < likes.length; keeper++) {
                likes[keeper] = new Row();
            }
        }

        int size() {
            return huts.size();
        }

        /** Lets one more keeper in, with the hut of the same number. */
        int settle() {
            int keeper = huts.size();
            huts.insert(keeper, keeper);
            return keeper;
        }

        int hutOf(int keeper) {
            return huts.at(keeper);
        }

        int keeperIn(int hut) {
            return huts.placeOf(hut);
        }

        Row likesOf(int keeper) {
            Row row = keeper >= 0 && keeper < likes.length ? likes[keeper] : null;
            return row == null ? noLikes : row;
        }

        int rankOf(int keeper, int hut) {
            Row row = likesOf(keeper);
            return hut == hutOf(keeper) ? row.size() : row.placeOf(hut);
        }

        /** The huts that are no better than the new one are not wished for any more. */
        void moveInto(int keeper, int hut) {
            Row row = likesOf(keeper);
            row.cutFrom(row.placeOf(hut));
            huts.put(keeper, hut);
        }
    }

    /** One run of all rounds over a land, which it leaves as it is, and what came of it. */
    private static final class Trade {
        private static final int STILL_THERE = 0;
        private static final int NEVER_THERE = -1;

        private final Land land;
        private final Row gets = new Row();
        private final Row doneIn = new Row();
        private final Row ringSizes = new Row();
        private final Row aims = new Row();
        private final Row feignedLikes = new Row();
        private int feigner = NONE;
        private int rounds = 0;
        private int ringsOfMore = 0;

        Trade(Land land) {
            this.land = land;
        }

        void runForAll() {
            start();
            runRounds();
        }

        void runWithout(int other) {
            start();
            doneIn.put(other, NEVER_THERE);
            runRounds();
        }

        void runFeigning(int keeper, int hut) {
            start();
            feigner = keeper;
            if (hut != land.hutOf(keeper)) {
                feignedLikes.insert(0, hut);
            }
            runRounds();
        }

        int hutFor(int keeper) {
            return gets.at(keeper);
        }

        int roundOf(int keeper) {
            return doneIn.at(keeper);
        }

        int ringSizeOf(int keeper) {
            return ringSizes.at(keeper);
        }

        int rounds() {
            return rounds;
        }

        int ringsOfMore() {
            return ringsOfMore;
        }

        int greatestRing() {
            return ringSizes.greatest();
        }

        int roundsAdded() {
            return doneIn.sum();
        }

        /** Who is done in a round is still there in it, so this holds while the round runs and afterwards. */
        boolean isThereIn(int keeper, int round) {
            int done = doneIn.at(keeper);
            return done == STILL_THERE || done >= round;
        }

        int aimIn(int keeper, int round) {
            Row likes = keeper == feigner ? feignedLikes : land.likesOf(keeper);
            for (int place = 0; place < likes.size(); place++) {
                // A hut leaves with the keeper who has it: both stand in the same ring.
                int owner = land.keeperIn(likes.at(place));
                if (isThereIn(owner, round)) {
                    return owner;
                }
            }
            return keeper;
        }

        private void start() {
            int keepers = land.size();
            gets.refill(keepers, NONE);
            doneIn.refill(keepers, STILL_THERE);
            ringSizes.refill(keepers, 0);
            aims.refill(keepers, NONE);
            feignedLikes.refill(0, NONE);
            feigner = NONE;
            rounds = 0;
            ringsOfMore = 0;
        }

        private void runRounds() {
            // Each round closes a ring at least, so there are no more rounds than keepers.
            for (int round = 1; round <= MOST_KEEPERS && doneIn.placeOf(STILL_THERE) != NONE; round++) {
                rounds = round;
                aimAll(round);
                closeRings(round);
            }
        }

        private void aimAll(int round) {
            for (int keeper = 0; keeper < aims.size(); keeper++) {
                aims.put(keeper, isThereIn(keeper, round) ? aimIn(keeper, round) : NONE);
            }
        }

        private void closeRings(int round) {
            for (int keeper = 0; keeper < aims.size(); keeper++) {
                int size = doneIn.at(keeper) == STILL_THERE ? stepsBackTo(keeper) : 0;
                if (size > 0) {
                    closeRing(keeper, size, round);
                }
            }
        }

        /** How many steps of pointing lead back; 0 if none do. */
        private int stepsBackTo(int keeper) {
            int at = keeper;
            for (int steps = 1; steps <= MOST_KEEPERS; steps++) {
                at = aims.at(at);
                if (at == keeper) {
                    return steps;
                }
            }
            return 0;
        }

        private void closeRing(int first, int size, int round) {
            int at = first;
            for (int step = 0; step < size; step++) {
                int next = aims.at(at);
                gets.put(at, land.hutOf(next));
                doneIn.put(at, round);
                ringSizes.put(at, size);
                at = next;
            }
            if (size > 1) {
                ringsOfMore++;
            }
        }
    }
}
