import java.util.List;
import java.util.TreeSet;

/**
 * Every placing of up to three points of weight 1 or 3, and of four of weight 1, at four places, with
 * every demand that tells them apart, every way of distances and every reach at which something
 * changes: the answers are compared with those of SlowCrowds. ModelTest draws by lot; this does not.
 */
public final class SmallTest {
    // Two of the distances are the same by one way and not by another.
    private static final int[][] PLACES = {{0, 0}, {2, 0}, {1, 1}, {-1, 3}};
    private static final int[][] ASKED = {{0, 0}, {1, 1}, {3, 1}, {0, -1}};

    private static final Due DUE = new Due("SmallTest");

    public static void main(String[] args) {
        for (int points = 0; points <= 3; points++) {
            allPlacings(points, new int[] {1, 3});
        }
        allPlacings(4, new int[] {1});
        DUE.end();
    }

    private static void allPlacings(int points, int[] weights) {
        int kinds = PLACES.length * weights.length;
        int placings = (int) Math.pow(kinds, points);
        for (int placing = 0; placing < placings && DUE.wrongSoFar() == 0; placing++) {
            SlowCrowds slow = new SlowCrowds();
            for (int p = 0, rest = placing; p < points; p++, rest /= kinds) {
                int[] at = PLACES[rest % kinds % PLACES.length];
                int weight = weights[rest % kinds / PLACES.length];
                slow.points.put(p, new SlowCrowds.Spot(at[0], at[1], weight));
            }
            allSettings(slow);
        }
    }

    private static void allSettings(SlowCrowds slow) {
        int all = slow.count(5);
        for (slow.demand = 1; slow.demand <= all + 1; slow.demand++) {
            for (slow.way = 0; slow.way <= 2; slow.way++) {
                slow.reach = 0;
                answersOfAnyReach(slow, copyOf(slow));
                answersOfEachReach(slow);
            }
        }
    }

    private static PointCrowds copyOf(SlowCrowds slow) {
        PointCrowds x = new PointCrowds();
        for (int p : slow.points.keySet()) {
            SlowCrowds.Spot spot = slow.points.get(p);
            DUE.same("point", x.point(spot.x(), spot.y(), spot.weight()), p);
        }
        DUE.same("demand", x.demand(slow.demand), 1);
        DUE.same("way", x.way(slow.way), 1);
        return x;
    }

    private static void answersOfAnyReach(SlowCrowds slow, PointCrowds x) {
        for (int p : slow.points.keySet()) {
            same("dense(" + p + ")", slow, x.dense(p), slow.dense(p));
            for (int q : slow.points.keySet()) {
                String both = "(" + p + ", " + q + ")";
                same("distance" + both, slow, x.distance(p, q), slow.distance(p, q));
                same("meet" + both, slow, x.meet(p, q), slow.meet(p, q));
            }
        }
    }

    private static void answersOfEachReach(SlowCrowds slow) {
        TreeSet<Long> turns = slow.turns();
        turns.add(0L);
        for (long turn : turns) {
            // One object for both is far from its 512 calls.
            PointCrowds x = copyOf(slow);
            answersWith(Math.max(0, turn - 1), slow, x);
            answersWith(turn, slow, x);
        }
    }

    private static void answersWith(long reach, SlowCrowds slow, PointCrowds x) {
        List<TreeSet<Integer>> crowds = slow.crowds(reach);
        same("crowds(" + reach + ")", slow, x.crowds(reach), crowds.size());
        slow.reach = reach;
        same("reach(" + reach + ")", slow, x.reach(reach), 1);
        for (int p : slow.points.keySet()) {
            same("kind(" + p + ")", slow, x.kind(p), slow.kindOf(crowds, p));
            same("crowd(" + p + ")", slow, x.crowd(p), slow.crowdOf(crowds, p));
            same("around(" + p + ")", slow, x.around(p), slow.around(p, reach));
        }
        for (int what = 0; what < 6; what++) {
            same("count(" + what + ")", slow, x.count(what), slow.count(what));
        }
        for (int crowd = 0; crowd < crowds.size(); crowd++) {
            for (int what = 0; what < 8; what++) {
                same("about(" + crowd + ", " + what + ")", slow,
                        x.about(crowd, what), slow.about(crowd, what));
            }
        }
        for (int[] at : ASKED) {
            same("belongs(" + at[0] + ", " + at[1] + ")", slow,
                    x.belongs(at[0], at[1]), slow.belongs(crowds, at[0], at[1]));
        }
        same("check()", slow, x.check(), 1);
    }

    private static void same(String call, SlowCrowds slow, long got, long want) {
        // The text is dear, and millions of answers are as due.
        DUE.same(got == want ? call : call + " with " + slow.points + ", way " + slow.way + ", reach "
                + slow.reach + ", demand " + slow.demand, got, want);
    }
}
