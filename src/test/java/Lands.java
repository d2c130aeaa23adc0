/** Lands to test on, and all that can be asked of one without changing it. */
final class Lands {
    private Lands() {
    }

    /** A land of as many keepers as there are lists, each with that list. */
    static HutRings of(int[]... lists) {
        HutRings land = new HutRings();
        for (int keeper = 0; keeper < lists.length; keeper++) {
            land.come();
        }
        for (int keeper = 0; keeper < lists.length; keeper++) {
            for (int place = 0; place < lists[keeper].length; place++) {
                land.wish(keeper, place, lists[keeper][place]);
            }
        }
        return land;
    }

    static int[] list(int... huts) {
        return huts;
    }

    /** Keepers 0, 1, 2 stand in a ring in round 1, 3 and 4 in round 2, 5 alone in round 3. */
    static HutRings six() {
        return of(list(1), list(2, 0), list(0), list(0, 4), list(1, 3), list(3, 0));
    }

    /** Ten keepers, each of whom likes all that come ahead: one alone is done in each of ten rounds. */
    static HutRings longest() {
        HutRings land = empty(10);
        for (int keeper = 0; keeper < 10; keeper++) {
            for (int hut = 0; hut < keeper; hut++) {
                land.wish(keeper, hut, hut);
            }
        }
        return land;
    }

    /** Ten keepers in one ring: each likes the next one's hut, the last one that of the first. */
    static HutRings ringOfTen() {
        HutRings land = empty(10);
        for (int keeper = 0; keeper < 10; keeper++) {
            land.wish(keeper, 0, (keeper + 1) % 10);
        }
        return land;
    }

    /** Ten keepers; each likes all huts of the others, that of the next one best, and so on round. */
    static HutRings full() {
        HutRings land = empty(10);
        for (int keeper = 0; keeper < 10; keeper++) {
            for (int place = 0; place < 9; place++) {
                land.wish(keeper, place, (keeper + 1 + place) % 10);
            }
        }
        return land;
    }

    static HutRings empty(int keepers) {
        return of(new int[keepers][0]);
    }

    /** What the land answers to calls that change nothing, as one text. */
    static String all(HutRings land) {
        StringBuilder text = new StringBuilder();
        int keepers = land.count(0);
        for (int what = 0; what < 6; what++) {
            text.append(land.count(what)).append(' ');
        }
        for (int keeper = 0; keeper < keepers; keeper++) {
            addKeeper(text, land, keeper, keepers);
        }
        return text.append(land.mean()).append(' ').append(land.digest()).toString();
    }

    private static void addKeeper(StringBuilder text, HutRings land, int keeper, int keepers) {
        text.append("/ ");
        for (int what = 0; what < 6; what++) {
            text.append(land.told(keeper, what)).append(' ');
        }
        for (int place = 0; place < land.told(keeper, 1); place++) {
            text.append(land.list(keeper, place)).append(' ');
        }
        for (int round = 1; round <= keepers + 1; round++) {
            text.append(land.points(keeper, round)).append(' ');
        }
        for (int hut = 0; hut < keepers; hut++) {
            text.append(land.rank(keeper, hut)).append(' ');
        }
        // Of what would be only a part, since each answer of it costs rounds of its own.
        int other = (keeper + 1) % keepers;
        text.append(other == keeper ? -1 : land.without(keeper, other)).append(' ');
        text.append(land.feign(keeper, other)).append(' ');
    }
}
