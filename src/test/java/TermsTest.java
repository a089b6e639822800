/** The sentences of 'Terms' that name a bound: the last value within it and the first beyond. */
public final class TermsTest {
    private static final int FAR = 1073741823;
    private static final long FARTHEST_SQUARES = 9223372019674906632L;

    private static final Due DUE = new Due("TermsTest");

    public static void main(String[] args) {
        placesFromLeastToGreatest();
        weights1To20();
        severalAtOnePlace();
        numbers0To119();
        leastFreeNumber();
        distances();
        atFirst();
        neighboursNotMoreThanTheReach();
        neighboursItselfToo();
        coresNotLessThanTheDemand();
        hangTogetherIfNeighbours();
        hangTogetherByOthersBetween();
        noBorderBetween();
        crowdsByTheirLeastCores();
        bordersHaveACoreAsNeighbour();
        bordersBelongToTheLeastCrowd();
        allOthersAreStrays();
        lastOf512Calls();
        DUE.end();
    }

    private static void due(String call, long got, long want) {
        DUE.same(call, got, want);
    }

    /** Points of weight 1 on the line y = 0, numbered from 0, with way 1. */
    private static PointCrowds line(int... xs) {
        PointCrowds x = new PointCrowds();
        x.way(1);
        for (int at : xs) {
            x.point(at, 0, 1);
        }
        return x;
    }

    /** As many points on the line, one step from each to the next. */
    private static PointCrowds row(int points) {
        PointCrowds x = new PointCrowds();
        x.way(1);
        x.reach(1);
        for (int p = 0; p < points; p++) {
            x.point(p, 0, 1);
        }
        return x;
    }

    /** "a place x, y (each from -1073741823 to 1073741823)" */
    private static void placesFromLeastToGreatest() {
        int[][] places = {
            {FAR, 0}, {-FAR, 0}, {0, FAR}, {0, -FAR}, {FAR, FAR}, {-FAR, -FAR}, {FAR, -FAR},
        };
        int[][] noPlaces = {
            {FAR + 1, 0}, {-FAR - 1, 0}, {0, FAR + 1}, {0, -FAR - 1},
            {FAR + 1, FAR}, {-FAR - 1, -FAR}, {-FAR, FAR + 1}, {FAR, -FAR - 1},
            {Integer.MIN_VALUE, 0}, {Integer.MAX_VALUE, 0},
            {0, Integer.MIN_VALUE}, {0, Integer.MAX_VALUE},
        };
        PointCrowds x = new PointCrowds();
        x.reach(Long.MAX_VALUE);
        for (int i = 0; i < places.length; i++) {
            String at = "(" + places[i][0] + ", " + places[i][1] + ")";
            due("point at " + at, x.point(places[i][0], places[i][1], 1), i);
            due("move to " + at, x.move(0, places[i][0], places[i][1]), 1);
            due("belongs at " + at, x.belongs(places[i][0], places[i][1]), 0);
        }
        for (int[] no : noPlaces) {
            String at = "(" + no[0] + ", " + no[1] + ")";
            due("point at " + at, x.point(no[0], no[1], 1), -1);
            due("move to " + at, x.move(0, no[0], no[1]), 0);
            due("belongs at " + at, x.belongs(no[0], no[1]), -1);
        }
        due("all points", x.count(4), places.length);
    }

    /** "a WEIGHT, 1 to 20" */
    private static void weights1To20() {
        PointCrowds x = new PointCrowds();
        for (int weight = -2; weight <= 23; weight++) {
            boolean sound = weight >= 1 && weight <= 20;
            due("point of weight " + weight, x.point(weight, 0, weight), sound ? weight - 1 : -1);
        }
        for (int weight = 1; weight <= 20; weight++) {
            due("weight of a point", x.around(weight - 1), weight);
        }
        due("all weights", x.count(5), 210);
    }

    /** "several may be at one place" */
    private static void severalAtOnePlace() {
        PointCrowds x = new PointCrowds();
        for (int p = 0; p < 120; p++) {
            due("one more at one place", x.point(FAR, -FAR, 20), p);
        }
        due("distance at one place", x.distance(0, 119), 0);
        due("around at one place", x.around(60), 2400);
        due("crowds at one place", x.count(0), 1);
        x.demand(2400);
        due("cores at one place", x.count(1), 120);
        due("dense at one place", x.dense(119), 0);
        due("meet at one place", x.meet(119, 0), 0);
        x.remove(7);
        due("cores with one less", x.count(1), 0);
        due("crowds with one less", x.crowds(Long.MAX_VALUE), 0);
        due("dense with one less", x.dense(119), -1);
        due("meet with one less", x.meet(119, 0), -1);
    }

    /** "They are numbered: .. 0 to 119." */
    private static void numbers0To119() {
        PointCrowds x = row(119);
        due("kind(118) of 119", x.kind(118), 2);
        due("kind(119) of 119", x.kind(119), -1);
        due("the last point", x.point(0, 0, 1), 119);
        due("kind(119) of 120", x.kind(119), 2);
        due("kind(120) of 120", x.kind(120), -1);
        due("kind(-1) of 120", x.kind(-1), -1);
        due("one more", x.point(0, 0, 1), -1);
    }

    /** "a new one has the least number that is free" */
    private static void leastFreeNumber() {
        PointCrowds x = row(120);
        for (int p : new int[] {119, 0, 1, 60}) {
            x.remove(p);
            due("the only free number", x.point(0, 0, 1), p);
        }
        for (int p : new int[] {60, 119, 0, 118}) {
            x.remove(p);
        }
        for (int p : new int[] {0, 60, 118, 119, -1}) {
            due("the least free number", x.point(0, 0, 1), p);
        }
        PointCrowds y = row(3);
        y.remove(2);
        due("the number of the last, free again", y.point(0, 0, 1), 2);
        y.remove(0);
        y.remove(1);
        y.remove(2);
        due("the first number when all are free again", y.point(0, 0, 1), 0);
    }

    /** "0 the square of the difference in x and that in y together; 1 the greater; 2 both" */
    private static void distances() {
        // Squares and sums that are too great for an int, or would be 0 in one.
        long[][] table = {
            {0, 0, 0, 0, 0}, {1, 0, 1, 1, 1}, {0, 1, 1, 1, 1}, {1, 1, 2, 1, 2}, {3, 4, 25, 4, 7},
            {4, 3, 25, 4, 7},
            {46340, 0, 2147395600L, 46340, 46340}, {46341, 0, 2147488281L, 46341, 46341},
            {0, 46341, 2147488281L, 46341, 46341}, {32768, 32768, 2147483648L, 32768, 65536},
            {65536, 0, 4294967296L, 65536, 65536}, {0, 65536, 4294967296L, 65536, 65536},
            {FAR, 0, 1152921502459363329L, FAR, FAR}, {FAR, 1, 1152921502459363330L, FAR, FAR + 1},
            {FAR, FAR, 2305843004918726658L, FAR, 2147483646L},
        };
        for (long[] one : table) {
            distance((int) one[0], (int) one[1], one);
            distance((int) -one[0], (int) one[1], one);
            distance((int) one[0], (int) -one[1], one);
            distance((int) -one[0], (int) -one[1], one);
        }
        PointCrowds x = new PointCrowds();
        x.point(-FAR, -FAR, 1);
        x.point(FAR, FAR, 1);
        x.point(-FAR, FAR, 1);
        x.point(FAR, -FAR, 1);
        long[] across = {FARTHEST_SQUARES, 2147483646L, 4294967292L};
        long[] along = {4611686009837453316L, 2147483646L, 2147483646L};
        for (int way = 0; way <= 2; way++) {
            x.way(way);
            due("across by way " + way, x.distance(0, 1), across[way]);
            due("across by way " + way, x.distance(3, 2), across[way]);
            due("along x by way " + way, x.distance(0, 3), along[way]);
            due("along y by way " + way, x.distance(1, 3), along[way]);
        }
    }

    private static void distance(int toX, int toY, long[] want) {
        PointCrowds x = new PointCrowds();
        x.point(0, 0, 1);
        x.point(toX, toY, 1);
        for (int way = 0; way <= 2; way++) {
            x.way(way);
            String call = "distance to (" + toX + ", " + toY + ") by way " + way;
            due(call, x.distance(0, 1), want[2 + way]);
            due(call + ", turned round", x.distance(1, 0), want[2 + way]);
        }
    }

    /** "At first the way is 0, the REACH 0, the DEMAND 1." */
    private static void atFirst() {
        PointCrowds x = new PointCrowds();
        x.point(0, 0, 1);
        x.point(0, 0, 1);
        x.point(1, 0, 1);
        x.point(-2, 3, 1);
        due("the way is 0", x.distance(0, 3), 13);
        due("the reach is not less than 0", x.around(0), 2);
        due("the reach is less than 1", x.around(2), 1);
        due("the demand is 1", x.kind(2), 2);
        due("the demand is 1, borne by itself", x.dense(2), 0);
        due("the demand is 1, borne by both", x.meet(0, 1), 0);
        due("crowds at first", x.count(0), 3);
    }

    /** "whose distance is not more than the reach" */
    private static void neighboursNotMoreThanTheReach() {
        int[][] to = {{1, 0}, {0, 1}, {3, -4}, {65536, 0}, {0, 65536}, {FAR, FAR}};
        for (int[] one : to) {
            for (int way = 0; way <= 2; way++) {
                PointCrowds x = new PointCrowds();
                x.point(one[0] == FAR ? -FAR : 0, one[1] == FAR ? -FAR : 0, 3);
                x.point(one[0], one[1], 4);
                x.way(way);
                neighboursAtTheirDistance(x, x.distance(0, 1));
            }
        }
    }

    private static void neighboursAtTheirDistance(PointCrowds x, long gap) {
        x.reach(gap - 1);
        due("around just before " + gap, x.around(0), 3);
        due("around just before " + gap, x.around(1), 4);
        due("crowds just before " + gap, x.count(0), 2);
        x.reach(gap);
        due("around at " + gap, x.around(0), 7);
        due("around at " + gap, x.around(1), 7);
        due("crowds at " + gap, x.count(0), 1);
        x.reach(gap + 1);
        due("around beyond " + gap, x.around(0), 7);
        due("crowds just before " + gap, x.crowds(gap - 1), 2);
        due("crowds at " + gap, x.crowds(gap), 1);
    }

    /** "NEIGHBOURS of a point are all, itself too" */
    private static void neighboursItselfToo() {
        PointCrowds x = new PointCrowds();
        x.point(5, 5, 20);
        due("around of the only one, reach 0", x.around(0), 20);
        x.reach(Long.MAX_VALUE);
        due("around of the only one, greatest reach", x.around(0), 20);
        x.demand(20);
        due("a core by itself", x.kind(0), 2);
        x.demand(21);
        due("no core by itself, nor a border of itself", x.kind(0), 0);
    }

    /** "weights together that are not less than the demand" */
    private static void coresNotLessThanTheDemand() {
        for (int demand : new int[] {1, 2, 6, 7, 8, 2399, 2400}) {
            PointCrowds x = new PointCrowds();
            x.point(0, 0, 3);
            x.point(1, 0, 4);
            x.point(3, 0, 20);
            x.reach(1);
            x.demand(demand);
            due("kind with 7 around, demand " + demand, x.kind(0), demand <= 7 ? 2 : 0);
            due("kind with 20 around, demand " + demand, x.kind(2), demand <= 20 ? 2 : 0);
        }
        PointCrowds y = new PointCrowds();
        for (int p = 0; p < 120; p++) {
            y.point(p, 0, p == 119 ? 19 : 20);
        }
        y.reach(Long.MAX_VALUE);
        y.demand(2399);
        due("cores with 2399 around, demand 2399", y.count(1), 120);
        y.demand(2400);
        due("cores with 2399 around, demand 2400", y.count(1), 0);
        due("strays with 2399 around, demand 2400", y.count(3), 120);
    }

    /** "Two cores HANG TOGETHER, if they are neighbours" */
    private static void hangTogetherIfNeighbours() {
        PointCrowds x = line(0, 5);
        x.reach(4);
        due("crowds of two cores before", x.count(0), 2);
        x.reach(5);
        due("crowds of two cores at", x.count(0), 1);
        due("crowd of the second", x.crowd(1), 0);
        x.move(1, 6, 0);
        due("crowds of two cores when one went", x.count(0), 2);
        due("crowd of the second", x.crowd(1), 1);
    }

    /** "or by others between that are cores" */
    private static void hangTogetherByOthersBetween() {
        PointCrowds x = row(120);
        due("crowds of a row of 120", x.count(0), 1);
        due("crowd of the last", x.crowd(119), 0);
        due("meet of both ends", x.meet(0, 119), 1);
        x.remove(60);
        due("crowds without a middle", x.count(0), 2);
        due("crowd of the last", x.crowd(119), 1);
        due("points of the first", x.about(0, 0), 60);
        due("points of the second", x.about(1, 0), 59);
        due("meet over the gap", x.meet(119, 0), 2);
        due("meet beside the gap", x.meet(119, 61), 1);
        // Later ones hang together by an earlier one, and earlier ones by a later one.
        PointCrowds y = line(1, 0, 2, 11, 13, 12);
        y.reach(1);
        due("crowds by ones between", y.count(0), 2);
        due("by an earlier one", y.crowd(2), 0);
        due("by a later one", y.crowd(4), 1);
        // Two rows, which only the last number of all joins, and then only the first.
        PointCrowds z = row(119);
        for (int p = 60; p < 119; p++) {
            z.move(p, p + 1, 0);
        }
        due("crowds of two rows", z.count(0), 2);
        due("the last point, between them", z.point(60, 0, 1), 119);
        due("crowds of two rows that are joined", z.count(0), 1);
        due("meet over the last point", z.meet(59, 60), 1);
        z.move(119, 0, 0);
        z.move(0, 60, 0);
        due("crowds of two rows that the first point joins", z.count(0), 1);
        due("meet over the first point", z.meet(59, 60), 1);
    }

    /** As above: those between must be cores. */
    private static void noBorderBetween() {
        // 3 lies between the cores 2 and 4 and has both as neighbours, 3 together with itself.
        PointCrowds x = line(0, 0, 1, 2, 3, 4, 4);
        x.reach(1);
        x.demand(4);
        due("kind of a core beside", x.kind(2), 2);
        due("kind of the one between", x.kind(3), 1);
        due("crowds with a border between", x.count(0), 2);
        x.demand(3);
        due("kind of the one between", x.kind(3), 2);
        due("crowds with a core between", x.count(0), 1);
    }

    /** "crowds are numbered from 0, by their least cores" */
    private static void crowdsByTheirLeastCores() {
        PointCrowds x = row(120);
        x.reach(0);
        due("crowds of 120 apart", x.count(0), 120);
        for (int p : new int[] {0, 1, 59, 118, 119}) {
            due("crowd(" + p + ") of 120 apart", x.crowd(p), p);
            due("least core of crowd " + p, x.about(p, 3), p);
        }
        // Not by their least points: 0 is a border of the crowd whose least core is 3.
        PointCrowds y = line(9, 20, 21, 10, 11, 19);
        y.reach(1);
        y.demand(3);
        due("kind of the least point", y.kind(0), 1);
        due("crowd of core 1, before that of core 3", y.crowd(1), 0);
        due("crowd of core 3", y.crowd(3), 1);
        due("crowd of the border 0", y.crowd(0), 1);
        y.move(0, 10, 0);
        due("kind of the least point", y.kind(0), 2);
        due("crowd of core 1, after that of core 0", y.crowd(1), 1);
        due("crowd of core 3, with core 0", y.crowd(3), 0);
    }

    /** "a point that is no core, but has a core as a neighbour" */
    private static void bordersHaveACoreAsNeighbour() {
        PointCrowds x = line(0, 0, 5);
        x.demand(3);
        x.reach(4);
        due("nothing but strays", x.count(3), 3);
        x.point(-1, 0, 1);
        due("kind of a core", x.kind(0), 2);
        due("kind beyond the reach of a core", x.kind(2), 0);
        due("crowd beyond the reach of a core", x.crowd(2), -1);
        x.move(2, 4, 0);
        x.demand(4);
        due("kind of a core", x.kind(0), 2);
        due("kind at the reach of a core", x.kind(2), 1);
        due("crowd at the reach of a core", x.crowd(2), 0);
        due("kind at the reach of a core", x.kind(3), 1);
        x.remove(0);
        x.remove(1);
        due("kind when the cores are no more", x.kind(2), 0);
    }

    /** "it belongs to the least crowd of these" */
    private static void bordersBelongToTheLeastCrowd() {
        // Crowds 0 at 100, 1 at 10, 2 at 0: a light core each, which point 0 can come near to, and
        // a heavy one, which is beyond the reach of point 0.
        PointCrowds x = new PointCrowds();
        x.point(50, -5, 1);
        for (int at : new int[] {100, 10, 0}) {
            x.point(at, 0, 1);
            x.point(at, 9, 20);
        }
        x.way(1);
        x.reach(9);
        x.demand(20);
        int[][] crowdsAt = {
            {-10, -1}, {-9, 2}, {0, 2}, {1, 1}, {5, 1}, {9, 1}, {10, 1}, {19, 1}, {20, -1},
            {90, -1}, {91, 0}, {100, 0}, {109, 0}, {110, -1},
        };
        for (int[] one : crowdsAt) {
            x.move(0, one[0], -5);
            due("crowds with a point at " + one[0], x.count(0), 3);
            due("crowd of a point at " + one[0], x.crowd(0), one[1]);
            due("kind of a point at " + one[0], x.kind(0), one[1] == -1 ? 0 : 1);
        }
    }

    /** "All others are STRAYS." */
    private static void allOthersAreStrays() {
        // Only 0 has 4 around; 2 is a neighbour of the border 1, which is not enough.
        PointCrowds x = line(0, 1, 2, 3);
        x.point(-1, 0, 2);
        x.reach(1);
        x.demand(4);
        int[] kinds = {2, 1, 0, 0, 1};
        int[] crowds = {0, 0, -1, -1, 0};
        for (int p = 0; p < kinds.length; p++) {
            due("kind(" + p + ")", x.kind(p), kinds[p]);
            due("crowd(" + p + ")", x.crowd(p), crowds[p]);
        }
        x.demand(5);
        due("strays without a core", x.count(3), 5);
    }

    /** "An object is used for at most 512 calls": the last of them still answers as it should. */
    private static void lastOf512Calls() {
        PointCrowds x = new PointCrowds();
        for (int p = 0; p < 120; p++) {
            x.point(p, 0, 20);
        }
        for (int i = 0; i < 391; i++) {
            due("reach " + i, x.reach(i), 1);
        }
        due("the 512th call", x.count(0), 1);
    }
}
