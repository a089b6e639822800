import java.util.ArrayList;
import java.util.List;

/**
 * Calls that are refused: what they answer, and that nothing is done by them; and questions, by
 * which nothing is done either. Each is put to an object of its own, without points, with some and
 * with 120; then that object and one that was spared the call must answer everything alike.
 */
public final class RefusedTest {
    private static final int LEAST_INT = Integer.MIN_VALUE;
    private static final int GREATEST_INT = Integer.MAX_VALUE;
    private static final int FAR = 1073741823;

    private static final int[][] NO_PLACES = {
        {FAR + 1, 0}, {-FAR - 1, 0}, {0, FAR + 1}, {0, -FAR - 1}, {FAR + 1, FAR}, {-FAR, -FAR - 1},
        {LEAST_INT, 0}, {0, LEAST_INT}, {GREATEST_INT, 0}, {0, GREATEST_INT},
        {FAR + 1, FAR + 1}, {LEAST_INT, LEAST_INT},
    };
    private static final int[] NO_WEIGHTS = {0, 21, -1, -20, LEAST_INT, GREATEST_INT};
    private static final int[] NO_WAYS = {-1, 3, LEAST_INT, GREATEST_INT};
    private static final int[] NO_DEMANDS = {0, 2401, -1, LEAST_INT, GREATEST_INT};
    private static final int[] NO_COUNTS = {-1, 6, LEAST_INT, GREATEST_INT};
    private static final int[] NO_ABOUTS = {-1, 8, LEAST_INT, GREATEST_INT};
    private static final long[] NO_REACHES = {-1, -4294967296L, -4294967295L, Long.MIN_VALUE};

    private static final Due DUE = new Due("RefusedTest");

    private interface Call {
        long on(PointCrowds x);
    }

    private interface Making {
        PointCrowds one();
    }

    private final String name;
    private final Making making;
    private final int[] points;
    private final int[] noPoints;
    private final int crowds;
    private final List<Long> spared;

    private RefusedTest(String name, Making making, int[] points, int[] noPoints, int crowds) {
        this.name = name;
        this.making = making;
        this.points = points;
        this.noPoints = noPoints;
        this.crowds = crowds;
        this.spared = look(making.one());
    }

    public static void main(String[] args) {
        RefusedTest empty = new RefusedTest("without points", RefusedTest::empty,
                new int[] {}, new int[] {LEAST_INT, -1, 0, 1, 119, 120, GREATEST_INT}, 0);
        RefusedTest some = new RefusedTest("with some points", RefusedTest::some,
                new int[] {0, 1, 3, 4, 6, 7, 8},
                new int[] {LEAST_INT, -1, 2, 5, 9, 119, 120, 121, GREATEST_INT}, 2);
        RefusedTest full = new RefusedTest("with 120 points", RefusedTest::full,
                new int[] {0, 1, 59, 60, 118, 119},
                new int[] {LEAST_INT, -1, 120, 121, GREATEST_INT}, 2);
        some.kindsAre(2, 1, 2, 1, 2, 2, 0);
        full.kindsAre(2, 2, 2, 2, 2, 0);
        for (RefusedTest one : new RefusedTest[] {empty, some, full}) {
            one.changes();
            one.pointQuestions();
            one.crowdQuestions();
            one.questionsThatAreAnswered();
        }
        full.pointWhenThereAre120();
        DUE.end();
    }

    // ---- the objects

    private static PointCrowds empty() {
        PointCrowds x = new PointCrowds();
        x.way(2);
        x.reach(5);
        x.demand(3);
        return x;
    }

    /** Crowds 0 3 and 6 7, borders 1 of both and 4 of the second, a stray 8; 2 and 5 are free. */
    private static PointCrowds some() {
        PointCrowds x = new PointCrowds();
        x.point(9, 9, 3);
        x.point(4, 0, 1);
        x.point(0, 0, 20);
        x.point(0, 0, 20);
        x.point(11, 0, 2);
        x.point(4, 0, 20);
        x.point(7, 0, 5);
        x.point(8, 0, 18);
        x.point(-FAR, FAR, 9);
        x.remove(5);
        x.remove(2);
        x.move(0, 1, 0);
        x.way(1);
        x.reach(3);
        x.demand(21);
        return x;
    }

    /** Two crowds: 0 to 59 and 60 to 118 on a line with a gap; 119 is a stray, far away. */
    private static PointCrowds full() {
        PointCrowds x = new PointCrowds();
        for (int p = 0; p < 119; p++) {
            x.point(p < 60 ? p : p + 10, 0, 1 + p % 20);
        }
        x.point(FAR, FAR, 1);
        x.way(2);
        x.reach(2);
        x.demand(3);
        return x;
    }

    private void kindsAre(int... kinds) {
        PointCrowds x = making.one();
        for (int i = 0; i < points.length; i++) {
            DUE.same("kind(" + points[i] + ") " + name, x.kind(points[i]), kinds[i]);
        }
        DUE.same("count(0) " + name, x.count(0), crowds);
    }

    // ---- calls that are refused

    private void changes() {
        for (int[] at : NO_PLACES) {
            refused("point(" + at[0] + ", " + at[1] + ", 1)", -1, x -> x.point(at[0], at[1], 1));
            for (int p : points) {
                refused("move(" + p + ", " + at[0] + ", " + at[1] + ")", 0,
                        x -> x.move(p, at[0], at[1]));
            }
            refused("move(-1, ..) to no place", 0, x -> x.move(-1, at[0], at[1]));
        }
        for (int weight : NO_WEIGHTS) {
            refused("point(0, 0, " + weight + ")", -1, x -> x.point(0, 0, weight));
            refused("point(" + FAR + ", .. , " + weight + ")", -1, x -> x.point(FAR, -FAR, weight));
        }
        for (int p : noPoints) {
            refused("remove(" + p + ")", -1, x -> x.remove(p));
            refused("move(" + p + ", 1, 1)", 0, x -> x.move(p, 1, 1));
        }
        for (int way : NO_WAYS) {
            refused("way(" + way + ")", 0, x -> x.way(way));
        }
        for (long reach : NO_REACHES) {
            refused("reach(" + reach + ")", 0, x -> x.reach(reach));
        }
        for (int demand : NO_DEMANDS) {
            refused("demand(" + demand + ")", 0, x -> x.demand(demand));
        }
    }

    private void pointWhenThereAre120() {
        refused("point(0, 0, 1)", -1, x -> x.point(0, 0, 1));
        refused("point(0, 0, 20)", -1, x -> x.point(0, 0, 20));
        refused("point at the least place", -1, x -> x.point(-FAR, -FAR, 1));
        refused("point at the greatest place", -1, x -> x.point(FAR, FAR, 20));
        refused("point at no place", -1, x -> x.point(FAR + 1, FAR, 20));
        refused("point without a weight", -1, x -> x.point(0, 0, 0));
    }

    private void pointQuestions() {
        for (int p : noPoints) {
            refused("kind(" + p + ")", -1, x -> x.kind(p));
            refused("crowd(" + p + ")", -1, x -> x.crowd(p));
            refused("around(" + p + ")", -1, x -> x.around(p));
            refused("dense(" + p + ")", -1, x -> x.dense(p));
            for (int q : noPoints) {
                pairIsRefused(p, q);
            }
            for (int q : points) {
                pairIsRefused(p, q);
                pairIsRefused(q, p);
            }
        }
    }

    private void pairIsRefused(int p, int q) {
        refused("distance(" + p + ", " + q + ")", -1, x -> x.distance(p, q));
        refused("meet(" + p + ", " + q + ")", -1, x -> x.meet(p, q));
    }

    private void crowdQuestions() {
        for (int what : NO_COUNTS) {
            refused("count(" + what + ")", -1, x -> x.count(what));
        }
        for (int crowd : new int[] {LEAST_INT, -1, crowds, crowds + 1, 119, 120, GREATEST_INT}) {
            for (int what = -1; what <= 8; what++) {
                int asked = what;
                refused("about(" + crowd + ", " + what + ")", -1, x -> x.about(crowd, asked));
            }
        }
        for (int what : NO_ABOUTS) {
            for (int crowd = 0; crowd <= crowds; crowd++) {
                int asked = crowd;
                refused("about(" + crowd + ", " + what + ")", -1, x -> x.about(asked, what));
            }
        }
        for (int[] at : NO_PLACES) {
            refused("belongs(" + at[0] + ", " + at[1] + ")", -1, x -> x.belongs(at[0], at[1]));
        }
        for (long reach : NO_REACHES) {
            refused("crowds(" + reach + ")", -1, x -> x.crowds(reach));
        }
    }

    /** The answers are tested elsewhere; here only that nothing is done. */
    private void questionsThatAreAnswered() {
        for (long reach : new long[] {0, 1, 2, 3, 9, 4294967296L, Long.MAX_VALUE}) {
            nothingIsDone("crowds(" + reach + ")", x -> x.crowds(reach));
        }
        for (int p : points) {
            nothingIsDone("kind(" + p + ")", x -> x.kind(p));
            nothingIsDone("crowd(" + p + ")", x -> x.crowd(p));
            nothingIsDone("around(" + p + ")", x -> x.around(p));
            nothingIsDone("dense(" + p + ")", x -> x.dense(p));
            for (int q : points) {
                nothingIsDone("distance(" + p + ", " + q + ")", x -> x.distance(p, q));
                nothingIsDone("meet(" + p + ", " + q + ")", x -> x.meet(p, q));
            }
        }
        for (int what = 0; what < 8; what++) {
            int asked = what;
            nothingIsDone("count(" + what + ")", x -> x.count(asked));
            nothingIsDone("about(0, " + what + ")", x -> x.about(0, asked));
        }
        nothingIsDone("belongs(0, 0)", x -> x.belongs(0, 0));
        nothingIsDone("check()", x -> x.check());
    }

    // ---- how it is seen that nothing is done

    private void refused(String call, long due, Call made) {
        PointCrowds x = making.one();
        DUE.same(call + " " + name, made.on(x), due);
        nothingIsDone(call, made);
    }

    /** Once before the object was asked anything, and once after. */
    private void nothingIsDone(String call, Call made) {
        PointCrowds x = making.one();
        made.on(x);
        DUE.holds("nothing is done by " + call + " " + name, look(x).equals(spared));
        PointCrowds y = making.one();
        y.count(0);
        y.meet(points.length > 0 ? points[0] : 0, points.length > 1 ? points[1] : 0);
        made.on(y);
        DUE.holds("nothing is done by " + call + " later, " + name, look(y).equals(spared));
    }

    /** Some 150 answers that tell all of the object's state, and the number of its next point. */
    private List<Long> look(PointCrowds x) {
        List<Long> seen = new ArrayList<>();
        for (int p : points) {
            seen.add((long) x.kind(p));
            seen.add((long) x.crowd(p));
            seen.add((long) x.around(p));
            seen.add(x.dense(p));
            for (int q : points) {
                if (p <= q) {
                    seen.add(x.distance(p, q));
                    seen.add(x.meet(p, q));
                }
            }
        }
        for (int what = 0; what < 8; what++) {
            seen.add((long) x.count(what));
            seen.add((long) x.about(0, what));
            seen.add((long) x.about(1, what));
        }
        seen.add((long) x.belongs(1, 0));
        seen.add((long) x.belongs(10, 0));
        seen.add((long) x.check());
        seen.add((long) x.point(0, 0, 7));
        seen.add((long) x.around(0));
        seen.add((long) x.count(5));
        return seen;
    }
}
