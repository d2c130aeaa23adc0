import java.util.ArrayList;
import java.util.Arrays;
import java.util.HashSet;
import java.util.List;
import java.util.Set;

/** The document once more, written another way and without regard to cost, to compare answers with. */
final class Model {
    /** What a keeper gets, the round, the ring's size, and whom this one points at in each round. */
    static final class Fate {
        int got = -1;
        int round;
        int ring;
        final List<Integer> aims = new ArrayList<>();
    }

    private final List<Integer> huts = new ArrayList<>();
    private final List<List<Integer>> lists = new ArrayList<>();

    int come() {
        if (huts.size() == 10) {
            throw new IllegalStateException();
        }
        huts.add(huts.size());
        lists.add(new ArrayList<>());
        return huts.size() - 1;
    }

    int wish(int keeper, int place, int hut) {
        need(keeper);
        need(hut);
        needPlace(place, lists.get(keeper).size() + 1);
        if (huts.get(keeper) == hut || lists.get(keeper).contains(hut)) {
            throw new IllegalStateException();
        }
        lists.get(keeper).add(place, hut);
        return lists.get(keeper).size();
    }

    int drop(int keeper, int place) {
        need(keeper);
        needPlace(place, lists.get(keeper).size());
        return lists.get(keeper).remove(place);
    }

    int list(int keeper, int place) {
        need(keeper);
        needPlace(place, lists.get(keeper).size());
        return lists.get(keeper).get(place);
    }

    int told(int keeper, int what) {
        need(keeper);
        needPlace(what, 6);
        Fate fate = fates(lists, -1)[keeper];
        int[] all = {huts.get(keeper), lists.get(keeper).size(), fate.got, fate.round, fate.ring,
            rank(keeper, fate.got)};
        return all[what];
    }

    int points(int keeper, int round) {
        need(keeper);
        if (round < 1) {
            throw new IllegalArgumentException();
        }
        List<Integer> aims = fates(lists, -1)[keeper].aims;
        return round <= aims.size() ? aims.get(round - 1) : -1;
    }

    int rank(int keeper, int hut) {
        need(keeper);
        need(hut);
        List<Integer> line = new ArrayList<>(lists.get(keeper));
        line.add(huts.get(keeper));
        return line.indexOf(hut);
    }

    int count(int what) {
        needPlace(what, 6);
        Fate[] fates = fates(lists, -1);
        int[] all = new int[6];
        all[0] = huts.size();
        // Each keeper of a ring adds the ring's share of it: 2520 parts are a whole ring of up to ten.
        int ringParts = 0;
        for (int keeper = 0; keeper < fates.length; keeper++) {
            all[1] = Math.max(all[1], fates[keeper].round);
            ringParts += fates[keeper].ring > 1 ? 2520 / fates[keeper].ring : 0;
            all[3] += fates[keeper].got != huts.get(keeper) ? 1 : 0;
            all[4] += rank(keeper, fates[keeper].got);
            all[5] = Math.max(all[5], fates[keeper].ring);
        }
        all[2] = ringParts / 2520;
        return all[what];
    }

    boolean swaps(int a, int b) {
        need(a);
        need(b);
        Fate[] fates = fates(lists, -1);
        return better(a, fates[b].got, fates[a].got) && better(b, fates[a].got, fates[b].got);
    }

    int without(int keeper, int other) {
        need(keeper);
        need(other);
        if (keeper == other) {
            throw new IllegalArgumentException();
        }
        return fates(lists, other)[keeper].got;
    }

    int feign(int keeper, int hut) {
        need(keeper);
        need(hut);
        List<List<Integer>> feigned = new ArrayList<>(lists);
        feigned.set(keeper, huts.get(keeper) == hut ? List.of() : List.of(hut));
        return fates(feigned, -1)[keeper].got;
    }

    int move() {
        Fate[] fates = fates(lists, -1);
        int movers = 0;
        for (int keeper = 0; keeper < fates.length; keeper++) {
            int place = lists.get(keeper).indexOf(fates[keeper].got);
            if (place >= 0) {
                movers++;
                lists.set(keeper, new ArrayList<>(lists.get(keeper).subList(0, place)));
                huts.set(keeper, fates[keeper].got);
            }
        }
        return movers;
    }

    double mean() {
        double rounds = 0;
        for (Fate fate : fates(lists, -1)) {
            rounds += fate.round;
        }
        return huts.isEmpty() ? 0 : rounds / huts.size();
    }

    long digest() {
        List<Integer> numbers = new ArrayList<>();
        for (int what = 0; what < 6; what++) {
            numbers.add(count(what));
        }
        for (int keeper = 0; keeper < huts.size(); keeper++) {
            for (int what = 0; what < 6; what++) {
                numbers.add(told(keeper, what));
            }
            numbers.addAll(lists.get(keeper));
            numbers.add(points(keeper, 1));
        }
        long sum = 1259;
        for (int number : numbers) {
            sum = 31 * sum + number;
        }
        return sum;
    }

    private boolean better(int keeper, int hut, int than) {
        int rank = rank(keeper, hut);
        return rank >= 0 && rank < rank(keeper, than);
    }

    private Fate[] fates(List<List<Integer>> wishes, int leaver) {
        int keepers = huts.size();
        Fate[] fates = new Fate[keepers];
        Arrays.setAll(fates, keeper -> new Fate());
        Set<Integer> keepersThere = new HashSet<>();
        for (int keeper = 0; keeper < keepers; keeper++) {
            keepersThere.add(keeper);
        }
        Set<Integer> hutsThere = new HashSet<>(huts);
        if (leaver >= 0) {
            keepersThere.remove(leaver);
            hutsThere.remove(huts.get(leaver));
        }
        for (int round = 1; !keepersThere.isEmpty(); round++) {
            playRound(wishes, fates, round, keepersThere, hutsThere);
        }
        return fates;
    }

    private void playRound(List<List<Integer>> wishes, Fate[] fates, int round,
            Set<Integer> keepersThere, Set<Integer> hutsThere) {
        int[] wanted = new int[huts.size()];
        int[] aims = new int[huts.size()];
        for (int keeper : keepersThere) {
            wanted[keeper] = huts.get(keeper);
            for (int place = wishes.get(keeper).size() - 1; place >= 0; place--) {
                int hut = wishes.get(keeper).get(place);
                wanted[keeper] = hutsThere.contains(hut) ? hut : wanted[keeper];
            }
            aims[keeper] = huts.indexOf(wanted[keeper]);
            fates[keeper].aims.add(aims[keeper]);
        }
        Set<Integer> inRings = new HashSet<>();
        for (int keeper : keepersThere) {
            Set<Integer> reached = reachedFrom(keeper, aims);
            if (reached.contains(keeper)) {
                inRings.add(keeper);
                fates[keeper].got = wanted[keeper];
                fates[keeper].round = round;
                fates[keeper].ring = reached.size();
            }
        }
        for (int keeper : inRings) {
            keepersThere.remove(keeper);
            hutsThere.remove(wanted[keeper]);
        }
    }

    private static Set<Integer> reachedFrom(int keeper, int[] aims) {
        Set<Integer> reached = new HashSet<>();
        int at = aims[keeper];
        while (reached.add(at)) {
            at = aims[at];
        }
        return reached;
    }

    private void need(int number) {
        needPlace(number, huts.size());
    }

    private static void needPlace(int place, int end) {
        if (place < 0 || place >= end) {
            throw new IndexOutOfBoundsException();
        }
    }
}
