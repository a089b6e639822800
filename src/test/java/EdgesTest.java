/**
 * The sentences of the promises that name a boundary case, one by one: the last value that is
 * allowed and the first that is not, an object without points and one with 120. That nothing is
 * done by a refused call is shown by RefusedTest, what 'Terms' bounds by TermsTest.
 */
public final class EdgesTest {
    private static final int FAR = 1073741823;
    private static final int LEAST_INT = Integer.MIN_VALUE;
    private static final int GREATEST_INT = Integer.MAX_VALUE;
    private static final long FARTHEST_SQUARES = 9223372019674906632L;

    private static final Due DUE = new Due("EdgesTest");

    public static void main(String[] args) {
        newObjectHasNoPoints();
        pointNoneWhenThereAre120();
        pointNoneWhenNotAsSaid();
        removeTellsHowManyThereAre();
        removeNoneWhenNoneSuch();
        moveAnotherPlace();
        moveNoneSuchOrNoSuchPlace();
        wayNot0To2();
        reachLessThan0();
        demandNot1To2400();
        distanceNoneSuch();
        kindOfEach();
        kindNoneSuch();
        crowdNoneForAStray();
        crowdNoneSuch();
        countOfNone();
        countOf120();
        countNoneForOthers();
        aboutOfAll();
        aboutBordersToo();
        aboutNoneSuch();
        aroundOfAll();
        aroundNoneSuch();
        belongsNotMoreThanTheReach();
        belongsLeastCrowd();
        belongsNoneForNone();
        belongsNoSuchPlace();
        denseLeastReach();
        denseOf120();
        denseNone();
        meetLeastReach();
        meetTheSame();
        meetOf120();
        meetNone();
        crowdsWithAnotherReach();
        crowdsLessThan0();
        checkOfAll();
        DUE.end();
    }

    private static void due(String call, long got, long want) {
        DUE.same(call, got, want);
    }

    /** Points of weight 1 on the line y = 0, numbered from 0, with way 1. */
    private static PointCrowds line(int... xs) {
        PointCrowds x = new PointCrowds();
        x.way(1);
        for (int at : xs) {
            x.point(at, 0, 1);
        }
        return x;
    }

    /** 120 points on the line, one step from each to the next, with way 1. */
    private static PointCrowds full(int weight) {
        PointCrowds x = new PointCrowds();
        x.way(1);
        for (int p = 0; p < 120; p++) {
            x.point(p, 0, weight);
        }
        return x;
    }

    /** A core 0 with 10 around, borders 1 and 3, a stray 2; the number 4 was used and is free. */
    private static PointCrowds ofEachKind() {
        PointCrowds x = new PointCrowds();
        x.way(1);
        x.reach(4);
        x.demand(10);
        x.point(0, 0, 4);
        x.point(4, 0, 3);
        x.point(9, 0, 6);
        x.point(-4, 0, 3);
        x.point(0, 0, 20);
        x.remove(4);
        return x;
    }

    // ---- Promise 1

    /** "No points." */
    private static void newObjectHasNoPoints() {
        PointCrowds x = new PointCrowds();
        for (int what = 0; what <= 5; what++) {
            due("count(" + what + ") of a new object", x.count(what), 0);
        }
        for (int p : new int[] {0, 1, 119}) {
            due("kind(" + p + ") of a new object", x.kind(p), -1);
            due("crowd(" + p + ") of a new object", x.crowd(p), -1);
            due("around(" + p + ") of a new object", x.around(p), -1);
            due("dense(" + p + ") of a new object", x.dense(p), -1);
            due("distance(" + p + ", 0) of a new object", x.distance(p, 0), -1);
            due("meet(" + p + ", 0) of a new object", x.meet(p, 0), -1);
            due("remove(" + p + ") of a new object", x.remove(p), -1);
            due("move(" + p + ", 0, 0) of a new object", x.move(p, 0, 0), 0);
        }
        for (int what = 0; what <= 7; what++) {
            due("about(0, " + what + ") of a new object", x.about(0, what), -1);
        }
        due("belongs(0, 0) of a new object", x.belongs(0, 0), -1);
        due("crowds(0) of a new object", x.crowds(0), 0);
        due("crowds of the greatest reach of a new object", x.crowds(Long.MAX_VALUE), 0);
        due("check() of a new object", x.check(), 1);
        due("the first point", x.point(0, 0, 1), 0);
        due("another new object", new PointCrowds().count(4), 0);
    }

    // ---- Promise 2

    /** "NONE when there are 120" */
    private static void pointNoneWhenThereAre120() {
        PointCrowds x = new PointCrowds();
        for (int p = 0; p < 120; p++) {
            due("point number " + p, x.point(p, 0, 20), p);
        }
        due("point 121", x.point(0, 0, 20), -1);
        due("point 121 again", x.point(0, 0, 1), -1);
        due("points", x.count(4), 120);
        due("weights", x.count(5), 2400);
        x.remove(50);
        due("point 120 once more", x.point(-9, 0, 1), 50);
        due("point 121 once more", x.point(-9, 0, 1), -1);
        due("weights", x.count(5), 2381);
    }

    /** "or x, y or the weight is not as said" */
    private static void pointNoneWhenNotAsSaid() {
        PointCrowds x = new PointCrowds();
        due("x too great", x.point(FAR + 1, 0, 1), -1);
        due("x too small", x.point(-FAR - 1, 0, 1), -1);
        due("y too great", x.point(0, FAR + 1, 1), -1);
        due("y too small", x.point(0, -FAR - 1, 1), -1);
        due("weight too great", x.point(0, 0, 21), -1);
        due("weight too small", x.point(0, 0, 0), -1);
        due("weight as small as can be", x.point(0, 0, LEAST_INT), -1);
        due("weight as great as can be", x.point(0, 0, GREATEST_INT), -1);
        due("all too great", x.point(FAR + 1, FAR + 1, 21), -1);
        due("points", x.count(4), 0);
        due("x and y greatest, weight greatest", x.point(FAR, FAR, 20), 0);
        due("x and y least, weight least", x.point(-FAR, -FAR, 1), 1);
        due("least x", x.about(1, 4), -FAR);
        due("greatest y", x.about(0, 7), FAR);
        due("weights", x.count(5), 21);
    }

    // ---- Promise 3

    /** "A point is no more: how many there are" */
    private static void removeTellsHowManyThereAre() {
        PointCrowds x = full(20);
        due("remove(119) of 120", x.remove(119), 119);
        due("remove(0) of 119", x.remove(0), 118);
        for (int p = 1; p < 119; p++) {
            due("remove(" + p + ")", x.remove(p), 118 - p);
        }
        due("points when all are no more", x.count(4), 0);
        due("weights when all are no more", x.count(5), 0);
        due("crowds when all are no more", x.count(0), 0);
        due("about when all are no more", x.about(0, 0), -1);
        due("belongs when all are no more", x.belongs(5, 0), -1);
        due("a new one when all are no more", x.point(3, 3, 3), 0);
        due("its neighbours", x.around(0), 3);
    }

    /** "NONE when there is none such" */
    private static void removeNoneWhenNoneSuch() {
        PointCrowds x = line(0, 1);
        for (int p : new int[] {2, -1, 119, 120, LEAST_INT, GREATEST_INT}) {
            due("remove(" + p + ") of two", x.remove(p), -1);
        }
        due("remove(1) of two", x.remove(1), 1);
        due("remove(1) again", x.remove(1), -1);
        due("remove(0) of one", x.remove(0), 0);
        due("remove(0) of none", x.remove(0), -1);
        PointCrowds y = full(1);
        due("remove(120) of 120", y.remove(120), -1);
        due("remove(-1) of 120", y.remove(-1), -1);
        due("points", y.count(4), 120);
    }

    // ---- Promise 4

    /** "A point has another place: 1" */
    private static void moveAnotherPlace() {
        PointCrowds x = full(3);
        for (int p : new int[] {0, 60, 119}) {
            due("move(" + p + ") to the least place", x.move(p, -FAR, -FAR), 1);
            due("distance from it", x.distance(p, 1), FAR + 1);
            due("move(" + p + ") to the greatest place", x.move(p, FAR, FAR), 1);
            due("distance from it", x.distance(p, 1), FAR);
            due("its neighbours", x.around(p), 3);
            due("move(" + p + ") to where it is", x.move(p, FAR, FAR), 1);
            due("move(" + p + ") to where another is", x.move(p, 1, 0), 1);
            due("distance from it", x.distance(p, 1), 0);
        }
        due("its neighbours", x.around(1), 12);
        due("points", x.count(4), 120);
        due("weights", x.count(5), 360);
        due("crowds", x.count(0), 117);
    }

    /** "0, and nothing is done, when there is none such, or no such place" */
    private static void moveNoneSuchOrNoSuchPlace() {
        PointCrowds x = line(0, 5);
        for (int p : new int[] {2, -1, 119, 120, LEAST_INT, GREATEST_INT}) {
            due("move(" + p + ") of two", x.move(p, 1, 1), 0);
        }
        x.remove(0);
        due("move of one that is no more", x.move(0, 1, 1), 0);
        due("move to x too great", x.move(1, FAR + 1, 1), 0);
        due("move to x too small", x.move(1, -FAR - 1, 1), 0);
        due("move to y too great", x.move(1, 1, FAR + 1), 0);
        due("move to y too small", x.move(1, 1, -FAR - 1), 0);
        due("x as before", x.about(0, 4), 5);
        due("y as before", x.about(0, 5), 0);
        due("points as before", x.count(4), 1);
    }

    // ---- Promises 5 to 7

    /** "when it is not 0 to 2" */
    private static void wayNot0To2() {
        PointCrowds x = new PointCrowds();
        x.point(0, 0, 1);
        x.point(3, 4, 1);
        x.reach(6);
        long[] distances = {25, 4, 7};
        int[] crowds = {2, 1, 2};
        for (int way = 0; way <= 2; way++) {
            due("way(" + way + ")", x.way(way), 1);
            due("crowds by way " + way, x.count(0), crowds[way]);
            due("meet by way " + way, x.meet(0, 1), distances[way]);
            for (int no : new int[] {-1, 3, LEAST_INT, GREATEST_INT}) {
                due("way(" + no + ")", x.way(no), 0);
                due("distance as before", x.distance(0, 1), distances[way]);
            }
        }
    }

    /** "when it is less than 0" */
    private static void reachLessThan0() {
        PointCrowds x = new PointCrowds();
        x.point(-FAR, -FAR, 1);
        x.point(FAR, FAR, 1);
        x.point(FAR, FAR, 1);
        // What an int would make 0 or -1 of is a reach too.
        long[] reaches = {
            0, 1, 4294967295L, 4294967296L, 2147483648L, FARTHEST_SQUARES - 1, FARTHEST_SQUARES,
            FARTHEST_SQUARES + 1, Long.MAX_VALUE,
        };
        for (long reach : reaches) {
            int all = reach >= FARTHEST_SQUARES ? 3 : 1;
            due("reach(" + reach + ")", x.reach(reach), 1);
            due("around with it", x.around(0), all);
            for (long no : new long[] {-1, Long.MIN_VALUE, -4294967296L, -4294967295L}) {
                due("reach(" + no + ")", x.reach(no), 0);
                due("around as before", x.around(0), all);
                due("crowds as before", x.count(0), all == 3 ? 1 : 2);
            }
        }
    }

    /** "when it is not 1 to 2400" */
    private static void demandNot1To2400() {
        PointCrowds x = full(20);
        x.reach(119);
        for (int demand : new int[] {1, 2, 2399, 2400}) {
            due("demand(" + demand + ")", x.demand(demand), 1);
            due("cores with it", x.count(1), 120);
            int cores = demand <= 2 ? 120 : 118;
            for (int no : new int[] {0, 2401, -1, LEAST_INT, GREATEST_INT}) {
                due("demand(" + no + ")", x.demand(no), 0);
            }
            x.reach(118);
            due("cores as before", x.count(1), cores);
            x.reach(119);
        }
        x.remove(0);
        due("cores of 119, demand 2400", x.count(1), 0);
        x.demand(2380);
        due("cores of 119, demand 2380", x.count(1), 119);
        x.demand(2381);
        due("cores of 119, demand 2381", x.count(1), 0);
    }

    // ---- Promise 8

    /** "NONE when there are none such" */
    private static void distanceNoneSuch() {
        PointCrowds x = full(1);
        due("distance(0, 119)", x.distance(0, 119), 119);
        due("distance(119, 0)", x.distance(119, 0), 119);
        due("distance(119, 119)", x.distance(119, 119), 0);
        for (int no : new int[] {-1, 120, LEAST_INT, GREATEST_INT}) {
            due("distance(" + no + ", 0)", x.distance(no, 0), -1);
            due("distance(119, " + no + ")", x.distance(119, no), -1);
            due("distance(" + no + ", " + no + ")", x.distance(no, no), -1);
        }
        x.remove(60);
        due("distance of one that is no more", x.distance(60, 61), -1);
        due("distance to one that is no more", x.distance(59, 60), -1);
        due("distance of one that is no more to itself", x.distance(60, 60), -1);
        due("distance over one that is no more", x.distance(59, 61), 2);
    }

    // ---- Promises 9 and 10

    /** "a stray (0), a border (1), a core (2)" */
    private static void kindOfEach() {
        PointCrowds x = ofEachKind();
        due("kind of the core", x.kind(0), 2);
        due("kind of a border", x.kind(1), 1);
        due("kind of the stray", x.kind(2), 0);
        due("kind of a border", x.kind(3), 1);
        x.demand(11);
        due("kind with a demand that is too great by one", x.kind(0), 0);
        due("kind beside it", x.kind(1), 0);
        x.demand(10);
        x.reach(3);
        due("kind with a reach that is too small by one", x.kind(0), 0);
        due("kind beside it", x.kind(1), 0);
        x.reach(4);
        due("kind with the least reach", x.kind(0), 2);
        due("kind beside it", x.kind(1), 1);
        x.move(1, 5, 0);
        x.demand(7);
        due("kind within reach of the stray alone", x.kind(1), 2);
        x.demand(9);
        due("kind of both", x.kind(1) + x.kind(2), 4);
        x.demand(10);
        due("kind of both", x.kind(1) + x.kind(2), 0);
        PointCrowds y = full(1);
        y.reach(1);
        y.demand(3);
        due("kind of the first of 120", y.kind(0), 1);
        due("kind of the second of 120", y.kind(1), 2);
        due("kind of the last but one of 120", y.kind(118), 2);
        due("kind of the last of 120", y.kind(119), 1);
        y.demand(4);
        due("kind of the last of 120", y.kind(119), 0);
    }

    /** "NONE when there is none such" */
    private static void kindNoneSuch() {
        PointCrowds x = ofEachKind();
        for (int p : new int[] {4, 5, -1, 119, 120, LEAST_INT, GREATEST_INT}) {
            due("kind(" + p + ")", x.kind(p), -1);
        }
        x.remove(2);
        due("kind of one that is no more", x.kind(2), -1);
        PointCrowds y = full(1);
        due("kind(120) of 120", y.kind(120), -1);
        due("kind(-1) of 120", y.kind(-1), -1);
    }

    /** "NONE for a stray" */
    private static void crowdNoneForAStray() {
        PointCrowds x = ofEachKind();
        due("crowd of the core", x.crowd(0), 0);
        due("crowd of a border", x.crowd(1), 0);
        due("crowd of a border", x.crowd(3), 0);
        due("crowd of the stray", x.crowd(2), -1);
        x.demand(11);
        due("crowd of the core when it is none", x.crowd(0), -1);
        due("crowd of a border when it is none", x.crowd(1), -1);
        PointCrowds y = full(1);
        due("crowd of the last of 120 apart", y.crowd(119), 119);
        y.demand(2);
        due("crowd of a stray among 120", y.crowd(119), -1);
        y.reach(1);
        due("crowd of the last of 120", y.crowd(119), 0);
    }

    /** "or when there is none such" */
    private static void crowdNoneSuch() {
        PointCrowds x = ofEachKind();
        for (int p : new int[] {4, 5, -1, 119, 120, LEAST_INT, GREATEST_INT}) {
            due("crowd(" + p + ")", x.crowd(p), -1);
        }
        x.remove(0);
        due("crowd of one that is no more", x.crowd(0), -1);
        PointCrowds y = full(1);
        due("crowd(120) of 120", y.crowd(120), -1);
        due("crowd(-1) of 120", y.crowd(-1), -1);
    }

    // ---- Promise 11

    private static void countsAre(PointCrowds x, String of, int... counts) {
        for (int what = 0; what < counts.length; what++) {
            due("count(" + what + ") of " + of, x.count(what), counts[what]);
        }
    }

    /** Nothing to count: 0, not NONE. */
    private static void countOfNone() {
        PointCrowds x = new PointCrowds();
        countsAre(x, "none", 0, 0, 0, 0, 0, 0);
        x.point(1, 1, 20);
        countsAre(x, "one core", 1, 1, 0, 0, 1, 20);
        x.demand(21);
        countsAre(x, "one stray", 0, 0, 0, 1, 1, 20);
        x.remove(0);
        countsAre(x, "none again", 0, 0, 0, 0, 0, 0);
    }

    private static void countOf120() {
        PointCrowds x = full(1);
        countsAre(x, "120 apart", 120, 120, 0, 0, 120, 120);
        x.demand(2);
        countsAre(x, "120 strays", 0, 0, 0, 120, 120, 120);
        x.reach(1);
        countsAre(x, "120 in a row", 1, 120, 0, 0, 120, 120);
        x.demand(3);
        countsAre(x, "118 in a row and both ends", 1, 118, 2, 0, 120, 120);
        x.reach(60);
        x.demand(120);
        countsAre(x, "two in the middle", 1, 2, 118, 0, 120, 120);
        due("all weights of 120 of the greatest", full(20).count(5), 2400);
    }

    /** "NONE for others" */
    private static void countNoneForOthers() {
        for (PointCrowds x : new PointCrowds[] {new PointCrowds(), ofEachKind(), full(1)}) {
            for (int what : new int[] {-1, 6, 7, LEAST_INT, GREATEST_INT}) {
                due("count(" + what + ")", x.count(what), -1);
            }
        }
    }

    // ---- Promise 12

    private static void aboutIs(PointCrowds x, int crowd, int... abouts) {
        for (int what = 0; what < abouts.length; what++) {
            due("about(" + crowd + ", " + what + ")", x.about(crowd, what), abouts[what]);
        }
    }

    /** The first and the last crowd, from one point to 120, and the farthest places. */
    private static void aboutOfAll() {
        PointCrowds x = full(20);
        aboutIs(x, 0, 1, 1, 20, 0, 0, 0, 0, 0);
        aboutIs(x, 119, 1, 1, 20, 119, 119, 0, 119, 0);
        x.reach(1);
        aboutIs(x, 0, 120, 120, 2400, 0, 0, 0, 119, 0);
        PointCrowds y = new PointCrowds();
        y.point(-FAR, FAR, 1);
        y.point(FAR, -FAR, 2);
        aboutIs(y, 0, 1, 1, 1, 0, -FAR, FAR, -FAR, FAR);
        aboutIs(y, 1, 1, 1, 2, 1, FAR, -FAR, FAR, -FAR);
        y.reach(Long.MAX_VALUE);
        aboutIs(y, 0, 2, 2, 3, 0, -FAR, -FAR, FAR, FAR);
        // A least x of -1 is no NONE, and one of 0 no absence.
        PointCrowds z = new PointCrowds();
        z.point(-1, -1, 1);
        z.point(0, 0, 1);
        aboutIs(z, 0, 1, 1, 1, 0, -1, -1, -1, -1);
        aboutIs(z, 1, 1, 1, 1, 1, 0, 0, 0, 0);
    }

    /** "of all its points": its borders are points of it, but no cores of it. */
    private static void aboutBordersToo() {
        // The core 4 at 0, 0 and four borders around it; none has another as a neighbour.
        PointCrowds x = new PointCrowds();
        x.point(-3, 0, 2);
        x.point(0, -4, 3);
        x.point(5, 0, 4);
        x.point(0, 6, 5);
        x.point(0, 0, 1);
        x.way(2);
        x.reach(6);
        x.demand(15);
        due("cores", x.count(1), 1);
        aboutIs(x, 0, 5, 1, 15, 4, -3, -4, 5, 6);
        x.move(3, 0, 7);
        due("crowds when one border is gone", x.count(0), 0);
        x.demand(10);
        aboutIs(x, 0, 4, 1, 10, 4, -3, -4, 5, 0);
        due("strays", x.count(3), 1);
    }

    /** "NONE when there is none such" */
    private static void aboutNoneSuch() {
        PointCrowds strays = ofEachKind();
        strays.demand(2400);
        aboutNoneOf(new PointCrowds(), 0);
        aboutNoneOf(strays, 0);
        aboutNoneOf(ofEachKind(), 1);
        aboutNoneOf(full(1), 120);
        PointCrowds together = full(1);
        together.reach(1);
        aboutNoneOf(together, 1);
    }

    private static void aboutNoneOf(PointCrowds x, int crowds) {
        due("crowds", x.count(0), crowds);
        for (int crowd : new int[] {crowds, -1, 121, LEAST_INT, GREATEST_INT}) {
            for (int what = -1; what <= 8; what++) {
                due("about(" + crowd + ", " + what + ") of " + crowds, x.about(crowd, what), -1);
            }
        }
        for (int what : new int[] {-1, 8, 9, LEAST_INT, GREATEST_INT}) {
            due("about(0, " + what + ") of " + crowds, x.about(0, what), -1);
            due("about the last, " + what, x.about(crowds - 1, what), -1);
        }
    }

    // ---- Promise 13

    private static void aroundOfAll() {
        PointCrowds x = full(20);
        due("around itself alone", x.around(0), 20);
        x.reach(1);
        due("around the first", x.around(0), 40);
        due("around the second", x.around(1), 60);
        due("around the last", x.around(119), 40);
        x.reach(118);
        due("around the first, all but the last", x.around(0), 2380);
        x.reach(119);
        due("around the first, all", x.around(0), 2400);
        x.reach(Long.MAX_VALUE);
        due("around the last, all", x.around(119), 2400);
        x.remove(0);
        due("around the last, one is no more", x.around(119), 2380);
    }

    /** "NONE when there is none such" */
    private static void aroundNoneSuch() {
        PointCrowds x = ofEachKind();
        for (int p : new int[] {4, 5, -1, 119, 120, LEAST_INT, GREATEST_INT}) {
            due("around(" + p + ")", x.around(p), -1);
        }
        x.remove(0);
        due("around one that is no more", x.around(0), -1);
        PointCrowds y = full(1);
        due("around(120) of 120", y.around(120), -1);
        due("around(-1) of 120", y.around(-1), -1);
    }

    // ---- Promise 14

    /** "at a distance from a place that is not more than the reach" */
    private static void belongsNotMoreThanTheReach() {
        int[][] steps = {{1, 0}, {-1, 0}, {0, 1}, {0, -1}, {3, 4}, {-46341, 0}, {65536, 0}};
        for (int[] step : steps) {
            for (int way = 0; way <= 2; way++) {
                PointCrowds x = new PointCrowds();
                x.point(7, -7, 1);
                x.point(7 + step[0], -7 + step[1], 1);
                x.way(way);
                long gap = x.distance(0, 1);
                x.remove(1);
                x.reach(gap - 1);
                due("belongs before " + gap, x.belongs(7 + step[0], -7 + step[1]), -1);
                x.reach(gap);
                due("belongs at " + gap, x.belongs(7 + step[0], -7 + step[1]), 0);
            }
        }
        PointCrowds y = new PointCrowds();
        y.point(-FAR, -FAR, 1);
        y.reach(FARTHEST_SQUARES - 1);
        due("belongs before the greatest distance", y.belongs(FAR, FAR), -1);
        y.reach(FARTHEST_SQUARES);
        due("belongs at the greatest distance", y.belongs(FAR, FAR), 0);
    }

    /** "The least crowd" */
    private static void belongsLeastCrowd() {
        PointCrowds x = line(20, 10, 0);
        x.reach(6);
        int[][] crowdsAt = {
            {-7, -1}, {-6, 2}, {3, 2}, {4, 1}, {5, 1}, {6, 1}, {7, 1}, {13, 1}, {14, 0}, {15, 0},
            {26, 0}, {27, -1},
        };
        for (int[] one : crowdsAt) {
            due("belongs at " + one[0], x.belongs(one[0], 0), one[1]);
        }
        PointCrowds y = full(1);
        due("belongs to the last of 120", y.belongs(119, 0), 119);
        due("belongs to the first of 120", y.belongs(0, 0), 0);
        due("belongs beyond the last of 120", y.belongs(120, 0), -1);
        y.reach(1);
        due("belongs to all 120", y.belongs(120, 0), 0);
        due("belongs beyond all 120", y.belongs(121, 0), -1);
    }

    /** "NONE for none": no core is near enough, though other points may be. */
    private static void belongsNoneForNone() {
        PointCrowds x = new PointCrowds();
        x.reach(Long.MAX_VALUE);
        due("belongs without points", x.belongs(0, 0), -1);
        x.point(0, 0, 20);
        x.demand(21);
        due("belongs at a stray", x.belongs(0, 0), -1);
        x.demand(20);
        due("belongs at a core", x.belongs(0, 0), 0);
        x.remove(0);
        due("belongs at one that is no more", x.belongs(0, 0), -1);
        PointCrowds y = line(0, 1, 2);
        y.reach(1);
        y.demand(3);
        due("belongs at a border", y.belongs(2, 0), 0);
        due("belongs near a border alone", y.belongs(3, 0), -1);
    }

    /** "or no such place" */
    private static void belongsNoSuchPlace() {
        for (int at : new int[] {FAR, -FAR}) {
            PointCrowds x = new PointCrowds();
            x.point(at, at, 1);
            x.reach(Long.MAX_VALUE);
            int beyond = at > 0 ? at + 1 : at - 1;
            due("belongs at " + at, x.belongs(at, at), 0);
            due("belongs at " + at, x.belongs(at, -at), 0);
            due("belongs at x " + beyond, x.belongs(beyond, at), -1);
            due("belongs at y " + beyond, x.belongs(at, beyond), -1);
            due("belongs at x and y " + beyond, x.belongs(beyond, beyond), -1);
            due("belongs at the least ints", x.belongs(LEAST_INT, LEAST_INT), -1);
            due("belongs at the greatest ints", x.belongs(GREATEST_INT, GREATEST_INT), -1);
        }
    }

    // ---- Promise 15

    /** "The least reach with which a point would be a core": with one less it is none. */
    private static void denseLeastReach() {
        PointCrowds x = new PointCrowds();
        x.point(0, 0, 4);
        x.point(3, 0, 2);
        x.point(-3, 0, 2);
        x.point(7, 0, 5);
        x.point(0, 9, 1);
        x.way(2);
        long[][] table = {
            {1, 0}, {4, 0}, {5, 3}, {6, 3}, {7, 3}, {8, 3}, {9, 7}, {13, 7}, {14, 9}, {15, -1},
        };
        for (long[] one : table) {
            x.demand((int) one[0]);
            due("dense(0), demand " + one[0], x.dense(0), one[1]);
            if (one[1] >= 0) {
                x.reach(one[1]);
                due("kind with it, demand " + one[0], x.kind(0), 2);
            }
            if (one[1] > 0) {
                x.reach(one[1] - 1);
                due("core with one less, demand " + one[0], x.kind(0) == 2 ? 1 : 0, 0);
            }
        }
        PointCrowds y = new PointCrowds();
        y.point(-FAR, FAR, 1);
        y.point(FAR, -FAR, 1);
        y.demand(2);
        long[] farthest = {FARTHEST_SQUARES, 2147483646L, 4294967292L};
        for (int way = 0; way <= 2; way++) {
            y.way(way);
            due("dense as far as can be, way " + way, y.dense(1), farthest[way]);
        }
    }

    private static void denseOf120() {
        PointCrowds x = full(20);
        int[] demands = {1, 20, 21, 40, 41, 2380, 2381, 2400};
        int[] ofFirst = {0, 0, 1, 1, 2, 118, 119, 119};
        int[] ofMiddle = {0, 0, 1, 1, 1, 59, 60, 60};
        for (int i = 0; i < demands.length; i++) {
            x.demand(demands[i]);
            due("dense(0) of 120, demand " + demands[i], x.dense(0), ofFirst[i]);
            due("dense(119) of 120, demand " + demands[i], x.dense(119), ofFirst[i]);
            due("dense(60) of 120, demand " + demands[i], x.dense(60), ofMiddle[i]);
        }
    }

    /** "NONE when there is none such, or none with which it is one" */
    private static void denseNone() {
        PointCrowds x = ofEachKind();
        for (int p : new int[] {4, 5, -1, 119, 120, LEAST_INT, GREATEST_INT}) {
            due("dense(" + p + ")", x.dense(p), -1);
        }
        x.demand(16);
        due("dense(0), demand of all weights", x.dense(0), 9);
        x.demand(17);
        due("dense(0), one more than all weights", x.dense(0), -1);
        x.demand(2400);
        due("dense(0), the greatest demand", x.dense(0), -1);
        x.demand(16);
        x.remove(1);
        due("dense(0), one is no more", x.dense(0), -1);
        due("dense(1), it is no more", x.dense(1), -1);
        due("dense(120) of 120", full(20).dense(120), -1);
        due("dense(-1) of 120", full(20).dense(-1), -1);
    }

    // ---- Promise 16

    /** "The least reach with which two points would be cores that .. hang together" */
    private static void meetLeastReach() {
        // 0 and 1 are 10 apart with 2 between; 3 lies far from all.
        PointCrowds x = line(0, 10, 4, 100);
        long[][] table = {{1, 6}, {2, 6}, {3, 10}, {4, 100}};
        for (long[] one : table) {
            x.demand((int) one[0]);
            due("meet(0, 1), demand " + one[0], x.meet(0, 1), one[1]);
            due("meet(1, 0), demand " + one[0], x.meet(1, 0), one[1]);
            x.reach(one[1]);
            due("crowds with it", x.crowd(0) - x.crowd(1), 0);
            due("kinds with it", x.kind(0) + x.kind(1), 4);
            x.reach(one[1] - 1);
            boolean apart = x.kind(0) != 2 || x.kind(1) != 2 || x.crowd(0) != x.crowd(1);
            DUE.holds("they do not meet with one less, demand " + one[0], apart);
        }
        PointCrowds y = new PointCrowds();
        y.point(-FAR, FAR, 1);
        y.point(FAR, -FAR, 1);
        long[] farthest = {FARTHEST_SQUARES, 2147483646L, 4294967292L};
        for (int way = 0; way <= 2; way++) {
            y.way(way);
            due("meet as far as can be, way " + way, y.meet(0, 1), farthest[way]);
        }
        y.move(0, FAR, -FAR);
        due("meet at one place", y.meet(0, 1), 0);
    }

    /** "cores that are the same" */
    private static void meetTheSame() {
        PointCrowds x = ofEachKind();
        int[] demands = {1, 3, 4, 6, 7, 8, 10, 16};
        for (int demand : demands) {
            x.demand(demand);
            for (int p = 0; p <= 3; p++) {
                due("meet(" + p + ", " + p + "), demand " + demand, x.meet(p, p), x.dense(p));
            }
        }
        x.demand(4);
        due("meet(0, 0) by its own weight", x.meet(0, 0), 0);
        x.demand(5);
        due("meet(0, 0) by more than its own", x.meet(0, 0), 4);
        x.demand(17);
        due("meet(0, 0), one more than all weights", x.meet(0, 0), -1);
    }

    private static void meetOf120() {
        PointCrowds x = full(20);
        long[][] table = {{1, 1}, {40, 1}, {41, 2}, {60, 2}, {2380, 118}, {2381, 119}, {2400, 119}};
        for (long[] one : table) {
            x.demand((int) one[0]);
            due("meet(0, 119) of 120, demand " + one[0], x.meet(0, 119), one[1]);
            due("meet(119, 0) of 120, demand " + one[0], x.meet(119, 0), one[1]);
        }
        x.demand(41);
        due("meet that waits for the last to be a core", x.meet(60, 119), 2);
        due("meet that waits for the first to be a core", x.meet(60, 0), 2);
        due("meet that waits for neither", x.meet(1, 118), 1);
        x.demand(2400);
        due("meet in the middle", x.meet(59, 60), 60);
        x.remove(119);
        due("meet of 119, demand 2400", x.meet(0, 118), -1);
        x.demand(2380);
        due("meet of 119, demand 2380", x.meet(0, 118), 118);
    }

    /** "NONE likewise" */
    private static void meetNone() {
        PointCrowds x = ofEachKind();
        for (int no : new int[] {4, 5, -1, 119, 120, LEAST_INT, GREATEST_INT}) {
            due("meet(" + no + ", 0)", x.meet(no, 0), -1);
            due("meet(0, " + no + ")", x.meet(0, no), -1);
            due("meet(" + no + ", " + no + ")", x.meet(no, no), -1);
        }
        x.demand(16);
        due("meet(0, 1), demand of all weights", x.meet(0, 1), 9);
        x.demand(17);
        due("meet(0, 1), one more than all weights", x.meet(0, 1), -1);
        x.demand(2400);
        due("meet(0, 1), the greatest demand", x.meet(0, 1), -1);
        x.demand(10);
        x.remove(1);
        due("meet of one that is no more", x.meet(1, 0), -1);
        due("meet with one that is no more", x.meet(0, 1), -1);
        due("meet of one that is no more with itself", x.meet(1, 1), -1);
        due("meet(120, 0) of 120", full(20).meet(120, 0), -1);
        due("meet(0, 120) of 120", full(20).meet(0, 120), -1);
    }

    // ---- Promise 17

    private static void crowdsWithAnotherReach() {
        PointCrowds x = full(1);
        x.reach(5);
        due("crowds(0) of 120 apart", x.crowds(0), 120);
        due("crowds(1) of 120 in a row", x.crowds(1), 1);
        due("crowds of the greatest reach", x.crowds(Long.MAX_VALUE), 1);
        x.demand(2);
        due("crowds(0) without cores", x.crowds(0), 0);
        x.demand(121);
        due("crowds with a demand that is too great", x.crowds(Long.MAX_VALUE), 0);
        x.demand(120);
        due("crowds with a demand that is not", x.crowds(119), 1);
        due("crowds with cores in the middle", x.crowds(60), 1);
        due("crowds with no core in the middle", x.crowds(59), 0);
        due("the reach is still 5", x.around(0), 6);
        due("crowds of the reach that is", x.crowds(5), x.count(0));
        PointCrowds y = new PointCrowds();
        y.point(-FAR, -FAR, 1);
        y.point(FAR, FAR, 1);
        due("crowds before the greatest distance", y.crowds(FARTHEST_SQUARES - 1), 2);
        due("crowds at the greatest distance", y.crowds(FARTHEST_SQUARES), 1);
        due("crowds of a reach that an int would cut", y.crowds(4294967296L), 2);
        due("the reach is still 0", y.count(0), 2);
    }

    /** "NONE when it is less than 0" */
    private static void crowdsLessThan0() {
        for (PointCrowds x : new PointCrowds[] {new PointCrowds(), ofEachKind(), full(1)}) {
            for (long no : new long[] {-1, -2, -4294967296L, -4294967295L, Long.MIN_VALUE}) {
                due("crowds(" + no + ")", x.crowds(no), -1);
            }
        }
        due("crowds(0) of none", new PointCrowds().crowds(0), 0);
        due("crowds(0) of one", line(5).crowds(0), 1);
    }

    // ---- Promise 18

    /** "if there is one": a crowd of one core is as it should be. */
    private static void checkOfAll() {
        due("check of none", new PointCrowds().check(), 1);
        due("check of one core", line(5).check(), 1);
        PointCrowds stray = line(5);
        stray.demand(2);
        due("check of one stray", stray.check(), 1);
        due("check of two cores at one place", line(5, 5).check(), 1);
        due("check of two crowds of one core", line(5, 6).check(), 1);
        due("check of each kind", ofEachKind().check(), 1);
        PointCrowds x = full(1);
        due("check of 120 crowds", x.check(), 1);
        for (long reach : new long[] {1, 2, 59, 60, 119, Long.MAX_VALUE}) {
            x.reach(reach);
            for (int demand : new int[] {1, 2, 3, 119, 120, 121, 2400}) {
                x.demand(demand);
                due("check of 120, reach " + reach + ", demand " + demand, x.check(), 1);
            }
        }
        x.reach(1);
        x.demand(1);
        x.move(119, 1, 0);
        x.move(1, 119, 0);
        due("check of one that has the last alone as a neighbour", x.check(), 1);
        x.move(119, 0, 0);
        x.move(0, 1, 0);
        due("check of one that has the first alone as a neighbour", x.check(), 1);
        x.remove(60);
        due("check of two crowds of many", x.check(), 1);
        due("two crowds of many", x.count(0), 2);
    }
}
