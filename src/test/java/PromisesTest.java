import java.lang.reflect.Field;

/** Each promise by hand: what is ordinary, the edges that the document names, and wrong inputs. */
public final class PromisesTest {
    private static final int FAR = 1073741823;
    private static final int[] WRONG_NUMBERS = {-2147483648, -1, 3, 119, 120, 121, 2147483647};

    private static final Due DUE = new Due("PromisesTest");

    public static void main(String[] args) {
        promise1NewObject();
        promise2Point();
        promise2PointFull();
        promise3Remove();
        promise4Move();
        promise5Way();
        promise6Reach();
        promise7Demand();
        promise8Distance();
        promise9Kind();
        promise10Crowd();
        promise10Numbers();
        promise11Count();
        promise12About();
        promise13Around();
        promise14Belongs();
        promise15Dense();
        promise16Meet();
        promise17Crowds();
        promise18Check();
        wrongNumbers();
        DUE.end();
    }

    private static void due(String call, long got, long want) {
        DUE.same(call, got, want);
    }

    /** Points of weight 1 on the line y = 0, numbered from 0. */
    private static PointCrowds line(int... xs) {
        PointCrowds x = new PointCrowds();
        for (int at : xs) {
            x.point(at, 0, 1);
        }
        return x;
    }

    /** Two crowds of three cores, 0 1 2 and 4 5 6, with 3 as a border of both and 7 as a stray. */
    private static PointCrowds twoCrowds() {
        PointCrowds x = new PointCrowds();
        x.point(0, 0, 3);
        x.point(0, 2, 4);
        x.point(2, 0, 5);
        x.point(5, 0, 1);
        x.point(8, 0, 3);
        x.point(10, 0, 4);
        x.point(10, -2, 6);
        x.point(-50, 60, 2);
        x.way(1);
        x.reach(3);
        x.demand(10);
        return x;
    }

    private static void promise1NewObject() {
        PointCrowds x = new PointCrowds();
        due("NONE", PointCrowds.NONE, -1);
        for (int what = 0; what < 6; what++) {
            due("count of a new object", x.count(what), 0);
        }
        due("first point", x.point(1, 1, 1), 0);
        due("demand is 1 at first", x.kind(0), 2);
        x.point(1, 2, 1);
        due("reach is 0 at first", x.count(0), 2);
        x.move(1, 4, 5);
        due("way is 0 at first", x.distance(0, 1), 25);
        PointCrowds other = new PointCrowds();
        due("objects share no points", other.count(4), 0);
        due("objects share no points", x.count(4), 2);
    }

    private static void promise2Point() {
        PointCrowds x = new PointCrowds();
        due("point at the least place", x.point(-FAR, -FAR, 1), 0);
        due("point at the greatest place", x.point(FAR, FAR, 20), 1);
        due("point at one place", x.point(FAR, FAR, 20), 2);
        due("point x too great", x.point(FAR + 1, 0, 1), -1);
        due("point x too small", x.point(-FAR - 1, 0, 1), -1);
        due("point y too great", x.point(0, FAR + 1, 1), -1);
        due("point y too small", x.point(0, -FAR - 1, 1), -1);
        due("point x least int", x.point(-2147483648, 0, 1), -1);
        due("point y least int", x.point(0, -2147483648, 1), -1);
        due("point weight 0", x.point(0, 0, 0), -1);
        due("point weight 21", x.point(0, 0, 21), -1);
        due("point weight least int", x.point(0, 0, -2147483648), -1);
        due("points after wrong ones", x.count(4), 3);
        due("weights after wrong ones", x.count(5), 41);
        x.remove(1);
        x.remove(0);
        due("least free number", x.point(7, 8, 9), 0);
        due("next free number", x.point(7, 8, 9), 1);
        due("next free number", x.point(7, 8, 9), 3);
        due("weight is the new one's", x.around(1), 27);
    }

    private static void promise2PointFull() {
        PointCrowds x = new PointCrowds();
        for (int p = 0; p < 120; p++) {
            due("point number " + p, x.point(p, -p, 20), p);
        }
        due("point when there are 120", x.point(0, 0, 1), -1);
        due("all points", x.count(4), 120);
        due("all weights", x.count(5), 2400);
        x.demand(2400);
        due("dense of the first", x.dense(0), 2 * 119 * 119);
        due("dense of a middle one", x.dense(60), 2 * 60 * 60);
        due("meet of both ends", x.meet(0, 119), 2 * 119 * 119);
        x.reach(2 * 119 * 119 - 1);
        due("cores just before", x.count(1), 118);
        due("borders just before", x.count(2), 2);
        due("remove of the last", x.remove(119), 119);
        due("point when one is free again", x.point(0, 0, 1), 119);
        due("point when there are 120 again", x.point(0, 0, 1), -1);
    }

    private static void promise3Remove() {
        PointCrowds x = line(0, 1, 2);
        x.reach(1);
        due("crowds before", x.count(0), 1);
        due("remove", x.remove(1), 2);
        due("remove again", x.remove(1), -1);
        due("crowds after", x.count(0), 2);
        due("kind of the removed", x.kind(1), -1);
        due("crowd of the removed", x.crowd(1), -1);
        due("crowd of a later one", x.crowd(2), 1);
        due("distance to the removed", x.distance(0, 1), -1);
        due("move of the removed", x.move(1, 5, 5), 0);
        due("weights after", x.count(5), 2);
        due("remove", x.remove(2), 1);
        due("remove", x.remove(0), 0);
        due("remove of none", x.remove(0), -1);
        due("crowds of none", x.count(0), 0);
    }

    private static void promise4Move() {
        PointCrowds x = line(0, 10);
        x.reach(4);
        due("crowds before", x.count(0), 2);
        due("move", x.move(1, 0, 2), 1);
        due("crowds after", x.count(0), 1);
        due("distance after", x.distance(0, 1), 4);
        due("weights after", x.count(5), 2);
        due("meet after", x.meet(0, 1), 4);
        due("move to the edge", x.move(0, FAR, -FAR), 1);
        due("move x too great", x.move(1, FAR + 1, 0), 0);
        due("move x too small", x.move(1, -FAR - 1, 0), 0);
        due("move y too great", x.move(1, 0, FAR + 1), 0);
        due("move y too small", x.move(1, 0, -FAR - 1), 0);
        due("place after wrong moves", x.about(1, 4), 0);
        due("place after wrong moves", x.about(1, 5), 2);
        due("place at the edge", x.about(0, 4), FAR);
        due("place at the edge", x.about(0, 7), -FAR);
        due("move of none", x.move(2, 0, 0), 0);
        due("points after", x.count(4), 2);
    }

    private static void promise5Way() {
        PointCrowds x = new PointCrowds();
        x.point(0, 0, 1);
        x.point(-3, 4, 1);
        due("way 2", x.way(2), 1);
        due("distance by way 2", x.distance(0, 1), 7);
        due("way 1", x.way(1), 1);
        due("distance by way 1", x.distance(0, 1), 4);
        x.reach(4);
        due("crowds by way 1", x.count(0), 1);
        due("meet by way 1", x.meet(0, 1), 4);
        due("way 3", x.way(3), 0);
        due("way -1", x.way(-1), 0);
        due("way least int", x.way(-2147483648), 0);
        due("distance after wrong ways", x.distance(0, 1), 4);
        due("way 2", x.way(2), 1);
        due("crowds by way 2", x.count(0), 2);
        due("meet by way 2", x.meet(0, 1), 7);
        due("way 0", x.way(0), 1);
        due("distance by way 0", x.distance(0, 1), 25);
        due("meet by way 0", x.meet(0, 1), 25);
    }

    private static void promise6Reach() {
        PointCrowds x = line(0, 3, 7);
        due("reach 8", x.reach(8), 1);
        due("crowds with reach 8", x.count(0), 3);
        due("reach 9", x.reach(9), 1);
        due("crowds with reach 9", x.count(0), 2);
        due("reach -1", x.reach(-1), 0);
        due("reach of the least long", x.reach(Long.MIN_VALUE), 0);
        due("crowds after wrong reaches", x.count(0), 2);
        due("greatest reach", x.reach(Long.MAX_VALUE), 1);
        due("crowds with the greatest reach", x.count(0), 1);
        due("reach beyond an int", x.reach(4294967296L), 1);
        due("crowds with a reach beyond an int", x.count(0), 1);
        due("reach 0", x.reach(0), 1);
        due("crowds with reach 0", x.count(0), 3);
    }

    private static void promise7Demand() {
        PointCrowds x = line(0, 1, 2);
        x.reach(1);
        due("demand 3", x.demand(3), 1);
        due("cores with demand 3", x.count(1), 1);
        due("demand 0", x.demand(0), 0);
        due("demand -1", x.demand(-1), 0);
        due("demand 2401", x.demand(2401), 0);
        due("demand greatest int", x.demand(2147483647), 0);
        due("cores after wrong demands", x.count(1), 1);
        due("meet with demand 3", x.meet(0, 1), 4);
        due("demand 2400", x.demand(2400), 1);
        due("cores with demand 2400", x.count(1), 0);
        due("meet with demand 2400", x.meet(0, 1), -1);
        due("demand 2", x.demand(2), 1);
        due("cores with demand 2", x.count(1), 3);
        due("meet with demand 2", x.meet(0, 2), 1);
        due("demand 1", x.demand(1), 1);
        due("dense with demand 1", x.dense(0), 0);
    }

    private static void promise8Distance() {
        PointCrowds x = new PointCrowds();
        x.point(-FAR, FAR, 1);
        x.point(FAR, -FAR, 1);
        x.point(-FAR + 1, FAR - 3, 1);
        due("greatest distance by way 0", x.distance(0, 1), 9223372019674906632L);
        due("small distance by way 0", x.distance(0, 2), 10);
        due("distance to itself", x.distance(1, 1), 0);
        x.way(1);
        due("greatest distance by way 1", x.distance(1, 0), 2147483646L);
        due("small distance by way 1", x.distance(2, 0), 3);
        x.way(2);
        due("greatest distance by way 2", x.distance(1, 0), 4294967292L);
        due("small distance by way 2", x.distance(2, 0), 4);
        x.move(2, -FAR + 3, FAR - 1);
        x.way(1);
        due("distance with x as the greater", x.distance(2, 0), 3);
        due("distance of wrong and right", x.distance(3, 0), -1);
        due("distance of right and wrong", x.distance(0, 3), -1);
    }

    private static void promise9Kind() {
        PointCrowds x = twoCrowds();
        int[] kinds = {2, 2, 2, 1, 2, 2, 2, 0};
        for (int p = 0; p < kinds.length; p++) {
            due("kind(" + p + ")", x.kind(p), kinds[p]);
        }
        // Near a border alone is not near a core.
        PointCrowds y = line(0, 1, 2, 3, 4);
        y.point(-1, 0, 2);
        y.demand(4);
        y.reach(1);
        int[] lineKinds = {2, 1, 0, 0, 0, 1};
        for (int p = 0; p < lineKinds.length; p++) {
            due("kind(" + p + ") on a line", y.kind(p), lineKinds[p]);
        }
    }

    private static void promise10Crowd() {
        PointCrowds x = twoCrowds();
        int[] crowds = {0, 0, 0, 0, 1, 1, 1, -1};
        for (int p = 0; p < crowds.length; p++) {
            due("crowd(" + p + ")", x.crowd(p), crowds[p]);
        }
        // A border does not join two crowds, and belongs to the least, whichever core is nearer.
        x.move(3, 5, -1);
        due("crowd of a border of both", x.crowd(3), 0);
        x.move(3, 6, 0);
        due("crowd of a border of the second", x.crowd(3), 1);
        due("cores hang together by others", x.crowd(5), 1);
    }

    private static void promise10Numbers() {
        PointCrowds x = line(100, 0, 101, 1, 50, 2);
        x.reach(1);
        int[] crowds = {0, 1, 0, 1, 2, 1};
        for (int p = 0; p < crowds.length; p++) {
            due("crowd(" + p + ") by least cores", x.crowd(p), crowds[p]);
        }
        // Point 0 is no core any more, so the crowd of 1 is the first.
        x.move(0, 52, 0);
        x.remove(2);
        x.demand(2);
        due("crowd of the first by cores", x.crowd(1), 0);
        due("crowd of a stray", x.crowd(0), -1);
        // Least core, not least point: 0 is a border of the crowd whose least core is 3.
        PointCrowds y = line(9, 20, 21, 10, 11, 19);
        y.reach(1);
        y.demand(3);
        due("kind of the border", y.kind(0), 1);
        due("crowd by least core 1", y.crowd(1), 0);
        due("crowd by least core 3", y.crowd(3), 1);
        due("crowd of its border 0", y.crowd(0), 1);
    }

    private static void promise11Count() {
        PointCrowds x = twoCrowds();
        int[] counts = {2, 6, 1, 1, 8, 28};
        for (int what = 0; what < counts.length; what++) {
            due("count(" + what + ")", x.count(what), counts[what]);
        }
        due("count(6)", x.count(6), -1);
        due("count(-1)", x.count(-1), -1);
        due("count of the least int", x.count(-2147483648), -1);
        due("count of the greatest int", x.count(2147483647), -1);
    }

    private static void promise12About() {
        PointCrowds x = twoCrowds();
        int[][] about = {{4, 3, 13, 0, 0, 0, 5, 2}, {3, 3, 13, 4, 8, -2, 10, 0}};
        for (int crowd = 0; crowd < about.length; crowd++) {
            for (int what = 0; what < 8; what++) {
                due("about(" + crowd + ", " + what + ")", x.about(crowd, what), about[crowd][what]);
            }
            due("about what 8", x.about(crowd, 8), -1);
            due("about what -1", x.about(crowd, -1), -1);
            due("about what least int", x.about(crowd, -2147483648), -1);
        }
        due("about crowd 2", x.about(2, 0), -1);
        due("about crowd -1", x.about(-1, 0), -1);
        due("about greatest crowd", x.about(2147483647, 0), -1);
        PointCrowds y = new PointCrowds();
        y.point(-FAR, FAR, 1);
        due("about x at the edge", y.about(0, 6), -FAR);
        due("about y at the edge", y.about(0, 5), FAR);
        aboutUnequalCrowds();
    }

    private static void aboutUnequalCrowds() {
        PointCrowds x = line(-7, -6, 4, 5, 6, 20);
        x.reach(1);
        int[] sizes = {2, 3, 1};
        int[] leastCores = {0, 2, 5};
        for (int crowd = 0; crowd < sizes.length; crowd++) {
            due("points of crowd " + crowd, x.about(crowd, 0), sizes[crowd]);
            due("cores of crowd " + crowd, x.about(crowd, 1), sizes[crowd]);
            due("weights of crowd " + crowd, x.about(crowd, 2), sizes[crowd]);
            due("least core of crowd " + crowd, x.about(crowd, 3), leastCores[crowd]);
        }
        due("least x at point 0", x.about(0, 4), -7);
        x.move(0, -5, 0);
        due("greatest x at point 0", x.about(0, 6), -5);
        due("least x at point 1", x.about(0, 4), -6);
    }

    private static void promise13Around() {
        PointCrowds x = twoCrowds();
        int[] around = {12, 12, 13, 9, 14, 13, 13, 2};
        for (int p = 0; p < around.length; p++) {
            due("around(" + p + ")", x.around(p), around[p]);
        }
        x.demand(2400);
        due("around is free of the demand", x.around(0), 12);
        x.reach(0);
        due("around itself alone", x.around(0), 3);
        x.point(0, 0, 20);
        due("around at one place", x.around(0), 23);
    }

    private static void promise14Belongs() {
        PointCrowds x = twoCrowds();
        due("belongs at a core", x.belongs(0, 0), 0);
        due("belongs at a core of the second", x.belongs(10, 0), 1);
        due("belongs at the reach", x.belongs(-3, 0), 0);
        due("belongs beyond the reach", x.belongs(-4, 0), -1);
        due("belongs to both, the least", x.belongs(5, 0), 0);
        due("belongs near the second", x.belongs(6, 0), 1);
        due("belongs near a stray", x.belongs(-50, 60), -1);
        due("belongs at no place", x.belongs(FAR + 1, 0), -1);
        due("belongs at no place", x.belongs(0, -FAR - 1), -1);
        x.reach(Long.MAX_VALUE);
        due("belongs at the edge", x.belongs(-FAR, FAR), 0);
        due("belongs at no place, all in reach", x.belongs(FAR + 1, 0), -1);
        due("belongs at no place, all in reach", x.belongs(-FAR - 1, 0), -1);
        due("belongs at no place, all in reach", x.belongs(0, FAR + 1), -1);
        due("belongs at no place, all in reach", x.belongs(0, -2147483648), -1);
        // Only cores count: near a border alone is near nothing.
        PointCrowds y = line(0, 1, 2);
        y.reach(1);
        y.demand(3);
        due("belongs near the core", y.belongs(1, 1), 0);
        due("belongs near a border", y.belongs(-1, 0), -1);
    }

    private static void promise15Dense() {
        PointCrowds x = twoCrowds();
        // From point 3 on: 1 at 0, 8 more at 3, 17 more at 5, 2 more at 60.
        due("dense(3)", x.dense(3), 5);
        x.demand(9);
        due("dense(3) by exactly the demand", x.dense(3), 3);
        x.demand(1);
        due("dense(3) by itself", x.dense(3), 0);
        x.demand(2);
        due("dense(3) by one more", x.dense(3), 3);
        x.demand(26);
        due("dense(3) with all but the stray", x.dense(3), 5);
        x.demand(27);
        due("dense(3) with the stray", x.dense(3), 60);
        x.demand(28);
        due("dense(7)", x.dense(7), 62);
        x.demand(29);
        due("dense with too great a demand", x.dense(3), -1);
        x.demand(6);
        due("dense by its own weight", x.dense(6), 0);
        x.reach(100);
        due("dense is free of the reach", x.dense(6), 0);
        PointCrowds y = new PointCrowds();
        y.point(5, 5, 1);
        y.point(5, 5, 1);
        y.demand(2);
        due("dense at one place", y.dense(1), 0);
        y.move(0, -FAR, -FAR);
        y.move(1, FAR, FAR);
        due("greatest dense", y.dense(0), 9223372019674906632L);
    }

    private static void promise16Meet() {
        PointCrowds x = twoCrowds();
        due("meet in one crowd", x.meet(0, 1), 2);
        due("meet of two crowds, over the border", x.meet(0, 4), 5);
        due("meet with the border", x.meet(3, 0), 5);
        due("meet with itself", x.meet(3, 3), 5);
        due("meet with the stray", x.meet(7, 0), 60);
        due("reach is as before", x.count(0), 2);
        x.demand(29);
        due("meet with too great a demand", x.meet(0, 1), -1);
        due("meet with itself, too great a demand", x.meet(0, 0), -1);
        // The way over nearer cores is taken, not the straight one; all of it must be cores.
        PointCrowds y = line(0, 10, 4, 7);
        due("meet by others between", y.meet(0, 1), 16);
        y.demand(3);
        due("meet when ends are cores later", y.meet(0, 1), 49);
        due("dense of an end", y.dense(0), 49);
        due("meet when the middle are cores", y.meet(2, 3), 16);
        due("meet turned round", y.meet(3, 2), 16);
        y.demand(1);
        y.remove(2);
        due("meet after one is removed", y.meet(0, 1), 49);
        due("meet of none such", y.meet(0, 2), -1);
        due("meet of none such", y.meet(2, 0), -1);
        due("meet of none such twice", y.meet(2, 2), -1);
    }

    private static void promise17Crowds() {
        PointCrowds x = line(0, 1, 3, 6, 10);
        x.reach(4);
        long[][] crowds = {{0, 5}, {1, 4}, {3, 4}, {4, 3}, {8, 3}, {9, 2}, {15, 2}, {16, 1}};
        for (long[] one : crowds) {
            due("crowds(" + one[0] + ")", x.crowds(one[0]), one[1]);
        }
        due("crowds of the greatest reach", x.crowds(Long.MAX_VALUE), 1);
        due("crowds(-1)", x.crowds(-1), -1);
        due("crowds of the least reach", x.crowds(Long.MIN_VALUE), -1);
        due("the reach is as before", x.count(0), 3);
        due("the reach is as before", x.crowd(3), 1);
        due("crowds(16)", x.crowds(16), 1);
        due("the reach is as before", x.belongs(8, 0), 1);
        due("crowds(16)", x.crowds(16), 1);
        due("the reach is as before", x.check(), 1);
        due("crowds(16)", x.crowds(16), 1);
        due("the reach is as before", x.about(2, 3), 4);
        x.demand(3);
        due("crowds with another demand", x.crowds(4), 1);
        due("crowds without cores", x.crowds(1), 0);
    }

    private static void promise18Check() {
        due("check of none", new PointCrowds().check(), 1);
        PointCrowds x = twoCrowds();
        due("check of two crowds", x.check(), 1);
        for (long reach = 0; reach < 70; reach++) {
            x.reach(reach);
            due("check with reach " + reach, x.check(), 1);
            x.crowds(70 - reach);
            due("check after crowds", x.check(), 1);
        }
        checkTellsFaults();
    }

    /** No run of calls leads to a fault, so this one is put into the object from outside. */
    private static void checkTellsFaults() {
        PointCrowds apart = line(0, 5);
        due("check of two apart", apart.check(), 1);
        putIntoCrowd(apart, 1, 0);
        due("check of two apart in one crowd", apart.check(), 0);
        PointCrowds near = line(0, 1);
        near.reach(1);
        due("check of two near", near.check(), 1);
        putIntoCrowd(near, 1, 1);
        due("check of two near in two crowds", near.check(), 0);
        checkTellsFaultsOfFirstAndLast();
    }

    /** Of 120 one stands apart from all others, so that the fault is to be seen from it alone. */
    private static void checkTellsFaultsOfFirstAndLast() {
        for (int apart : new int[] {0, 60, 119}) {
            PointCrowds x = new PointCrowds();
            x.way(1);
            x.reach(2);
            for (int p = 0; p < 120; p++) {
                x.point(p == apart ? -FAR : p, 0, 1);
            }
            due("crowds with " + apart + " apart", x.count(0), 2);
            due("check with " + apart + " apart", x.check(), 1);
            putIntoCrowd(x, apart, 1 - x.crowd(apart));
            due("check with " + apart + " in the crowd it is apart from", x.check(), 0);
        }
        PointCrowds y = line(0, 5);
        for (int p = 2; p < 120; p++) {
            y.point(1000 + 5 * p, 0, 1);
        }
        y.move(119, 1, 0);
        y.reach(1);
        due("check with the first and the last near", y.check(), 1);
        putIntoCrowd(y, 119, 118);
        due("check with the first and the last near in two crowds", y.check(), 0);
    }

    private static void putIntoCrowd(PointCrowds x, int p, int crowd) {
        try {
            Field crowdOf = PointCrowds.class.getDeclaredField("crowdOf");
            crowdOf.setAccessible(true);
            ((int[]) crowdOf.get(x))[p] = crowd;
        } catch (ReflectiveOperationException e) {
            DUE.holds("the row of crowds is called crowdOf", false);
        }
    }

    /** Numbers that no point has: never an exception, never a change. */
    private static void wrongNumbers() {
        PointCrowds x = line(0, 1, 2);
        for (int p : WRONG_NUMBERS) {
            due("remove(" + p + ")", x.remove(p), -1);
            due("move(" + p + ")", x.move(p, 0, 0), 0);
            due("distance(" + p + ", 0)", x.distance(p, 0), -1);
            due("distance(0, " + p + ")", x.distance(0, p), -1);
            due("kind(" + p + ")", x.kind(p), -1);
            due("crowd(" + p + ")", x.crowd(p), -1);
            due("around(" + p + ")", x.around(p), -1);
            due("dense(" + p + ")", x.dense(p), -1);
            due("meet(" + p + ", 0)", x.meet(p, 0), -1);
            due("meet(0, " + p + ")", x.meet(0, p), -1);
            due("about(" + p + ", 0)", x.about(p, 0), -1);
        }
        due("points after wrong numbers", x.count(4), 3);
    }
}
