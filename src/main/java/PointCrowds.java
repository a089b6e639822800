/**
 * Points with weights put into crowds by how dense they stand.
 *
 * <p>Nothing but the points, the way, the reach and the demand is state that a caller can see. The
 * rows about cores and crowds are worked out from it when a call asks for them, and are kept until
 * a change could make them wrong. All rows are made by the constructor: no call makes an object.
 */
public final class PointCrowds {
    public static final int NONE = -1;

    private static final int MOST_POINTS = 120;
    private static final int MOST_WEIGHT = 20;
    private static final int MOST_DEMAND = MOST_POINTS * MOST_WEIGHT;
    private static final int FARTHEST = 1073741823;

    private static final int SQUARES = 0;
    private static final int GREATER = 1;
    private static final int TOGETHER = 2;

    private static final int STRAY = 0;
    private static final int BORDER = 1;
    private static final int CORE = 2;

    // A free number has weight 0, which no point can have.
    private final int[] weights;
    private final int[] xs;
    private final int[] ys;
    private int wayNow;
    private long reachNow;
    private int demandNow;

    // Cores and crowds with the reach sortedReach; they hold only while sorted is true.
    private final boolean[] core;
    private final int[] crowdOf;
    private int crowdCount;
    private long sortedReach;
    private boolean sorted;

    // From which reach on each point is a core; it holds only while coreFromKnown is true.
    private final long[] coreFrom;
    private boolean coreFromKnown;

    // Room for one call's work; nothing in it outlives the call.
    private final long[] nearGap;
    private final int[] nearWeight;
    private final long[] cost;
    private final boolean[] settled;

    public PointCrowds() {
        weights = new int[MOST_POINTS];
        xs = new int[MOST_POINTS];
        ys = new int[MOST_POINTS];
        wayNow = SQUARES;
        reachNow = 0;
        demandNow = 1;
        core = new boolean[MOST_POINTS];
        crowdOf = new int[MOST_POINTS];
        crowdCount = 0;
        sortedReach = 0;
        sorted = false;
        coreFrom = new long[MOST_POINTS];
        coreFromKnown = false;
        nearGap = new long[MOST_POINTS];
        nearWeight = new int[MOST_POINTS];
        cost = new long[MOST_POINTS];
        settled = new boolean[MOST_POINTS];
    }

    // ---- changes

    public int point(int x, int y, int weight) {
        if (!isPlace(x, y) || weight < 1 || weight > MOST_WEIGHT) {
            return NONE;
        }
        int p = leastFree();
        if (p == NONE) {
            return NONE;
        }
        weights[p] = weight;
        put(p, x, y);
        return p;
    }

    public int remove(int p) {
        if (!isPoint(p)) {
            return NONE;
        }
        weights[p] = 0;
        forget();
        return countPoints();
    }

    public int move(int p, int x, int y) {
        if (!isPoint(p) || !isPlace(x, y)) {
            return 0;
        }
        put(p, x, y);
        return 1;
    }

    public int way(int way) {
        if (way < SQUARES || way > TOGETHER) {
            return 0;
        }
        wayNow = way;
        forget();
        return 1;
    }

    public int reach(long reach) {
        if (reach < 0) {
            return 0;
        }
        // Nothing to forget: the rows know which reach they were made with.
        reachNow = reach;
        return 1;
    }

    public int demand(int n) {
        if (n < 1 || n > MOST_DEMAND) {
            return 0;
        }
        demandNow = n;
        forget();
        return 1;
    }

    // ---- questions about points

    public long distance(int p, int q) {
        if (!isPoint(p) || !isPoint(q)) {
            return NONE;
        }
        return gapBetween(p, q);
    }

    public int kind(int p) {
        if (!isPoint(p)) {
            return NONE;
        }
        sortWith(reachNow);
        return kindOf(p);
    }

    public int crowd(int p) {
        if (!isPoint(p)) {
            return NONE;
        }
        sortWith(reachNow);
        return crowdOf[p];
    }

    public int around(int p) {
        if (!isPoint(p)) {
            return NONE;
        }
        return weightWithin(p, reachNow);
    }

    public long dense(int p) {
        if (!isPoint(p)) {
            return NONE;
        }
        return leastReachAsCore(p);
    }

    public long meet(int p, int q) {
        // With all points as neighbours every point bears all weights, so either all can be cores
        // or none can.
        if (!isPoint(p) || !isPoint(q) || countWeights() < demandNow) {
            return NONE;
        }
        findCoreFrom();
        return leastReachFrom(p, q);
    }

    // ---- questions about crowds

    public int count(int what) {
        // Points and weights are counted without crowds.
        if (what >= 0 && what <= 3) {
            sortWith(reachNow);
        }
        switch (what) {
            case 0:
                return crowdCount;
            case 1:
                return countKind(CORE);
            case 2:
                return countKind(BORDER);
            case 3:
                return countKind(STRAY);
            case 4:
                return countPoints();
            case 5:
                return countWeights();
            default:
                return NONE;
        }
    }

    public int about(int crowd, int what) {
        sortWith(reachNow);
        if (crowd < 0 || crowd >= crowdCount) {
            return NONE;
        }
        switch (what) {
            case 0:
                return pointsOf(crowd);
            case 1:
                return coresOf(crowd);
            case 2:
                return weightsOf(crowd);
            case 3:
                return leastCoreOf(crowd);
            case 4:
                return leastOf(xs, crowd);
            case 5:
                return leastOf(ys, crowd);
            case 6:
                return greatestOf(xs, crowd);
            case 7:
                return greatestOf(ys, crowd);
            default:
                return NONE;
        }
    }

    public int belongs(int x, int y) {
        if (!isPlace(x, y)) {
            return NONE;
        }
        sortWith(reachNow);
        return leastCrowdAt(x, y, reachNow);
    }

    public int crowds(long reach) {
        if (reach < 0) {
            return NONE;
        }
        sortWith(reach);
        return crowdCount;
    }

    public int check() {
        sortWith(reachNow);
        for (int p = 0; p < MOST_POINTS; p++) {
            if (core[p] && !standsRight(p)) {
                return 0;
            }
        }
        return 1;
    }

    // ---- points and places

    private static boolean isPlace(int x, int y) {
        return x >= -FARTHEST && x <= FARTHEST && y >= -FARTHEST && y <= FARTHEST;
    }

    private boolean isPoint(int p) {
        return p >= 0 && p < MOST_POINTS && weights[p] > 0;
    }

    private int leastFree() {
        for (int p = 0; p < MOST_POINTS; p++) {
            if (weights[p] == 0) {
                return p;
            }
        }
        return NONE;
    }

    private void put(int p, int x, int y) {
        xs[p] = x;
        ys[p] = y;
        forget();
    }

    private void forget() {
        sorted = false;
        coreFromKnown = false;
    }

    private int countPoints() {
        int n = 0;
        for (int p = 0; p < MOST_POINTS; p++) {
            if (weights[p] > 0) {
                n++;
            }
        }
        return n;
    }

    private int countWeights() {
        int sum = 0;
        for (int p = 0; p < MOST_POINTS; p++) {
            sum += weights[p];
        }
        return sum;
    }

    private long gapBetween(int p, int q) {
        return gapTo(q, xs[p], ys[p]);
    }

    private long gapTo(int q, int x, int y) {
        // The greatest square sum, 2 * 2147483646 * 2147483646, is still a long.
        long dx = Math.abs((long) xs[q] - x);
        long dy = Math.abs((long) ys[q] - y);
        if (wayNow == SQUARES) {
            return dx * dx + dy * dy;
        }
        return wayNow == GREATER ? Math.max(dx, dy) : dx + dy;
    }

    private int weightWithin(int p, long reach) {
        int sum = 0;
        for (int q = 0; q < MOST_POINTS; q++) {
            if (weights[q] > 0 && gapBetween(p, q) <= reach) {
                sum += weights[q];
            }
        }
        return sum;
    }

    // ---- cores and crowds with a reach

    private void sortWith(long reach) {
        if (sorted && sortedReach == reach) {
            return;
        }
        markCores(reach);
        gatherCrowds(reach);
        joinBorders(reach);
        sortedReach = reach;
        sorted = true;
    }

    private void markCores(long reach) {
        for (int p = 0; p < MOST_POINTS; p++) {
            core[p] = weights[p] > 0 && weightWithin(p, reach) >= demandNow;
            crowdOf[p] = NONE;
            settled[p] = false;
        }
    }

    private void gatherCrowds(long reach) {
        crowdCount = 0;
        // Upwards, so that each crowd is met at its least core and is numbered by it.
        for (int p = 0; p < MOST_POINTS; p++) {
            if (core[p] && crowdOf[p] == NONE) {
                gatherFrom(p, reach);
                crowdCount++;
            }
        }
    }

    private void gatherFrom(int first, long reach) {
        crowdOf[first] = crowdCount;
        for (int round = 0; round < MOST_POINTS; round++) {
            int next = leastUnsettledCore();
            if (next == NONE) {
                return;
            }
            settled[next] = true;
            gatherCoresNear(next, reach);
        }
    }

    private int leastUnsettledCore() {
        for (int p = 0; p < MOST_POINTS; p++) {
            if (crowdOf[p] == crowdCount && !settled[p]) {
                return p;
            }
        }
        return NONE;
    }

    private void gatherCoresNear(int p, long reach) {
        for (int q = 0; q < MOST_POINTS; q++) {
            if (core[q] && crowdOf[q] == NONE && gapBetween(p, q) <= reach) {
                crowdOf[q] = crowdCount;
            }
        }
    }

    private void joinBorders(long reach) {
        for (int p = 0; p < MOST_POINTS; p++) {
            if (weights[p] > 0 && !core[p]) {
                crowdOf[p] = leastCrowdAt(xs[p], ys[p], reach);
            }
        }
    }

    private int leastCrowdAt(int x, int y, long reach) {
        int least = NONE;
        for (int q = 0; q < MOST_POINTS; q++) {
            if (core[q] && (least == NONE || crowdOf[q] < least) && gapTo(q, x, y) <= reach) {
                least = crowdOf[q];
            }
        }
        return least;
    }

    private int kindOf(int p) {
        if (core[p]) {
            return CORE;
        }
        return crowdOf[p] == NONE ? STRAY : BORDER;
    }

    private int countKind(int kind) {
        int n = 0;
        for (int p = 0; p < MOST_POINTS; p++) {
            if (weights[p] > 0 && kindOf(p) == kind) {
                n++;
            }
        }
        return n;
    }

    private boolean standsRight(int p) {
        boolean hasMore = false;
        boolean hasNear = false;
        for (int q = 0; q < MOST_POINTS; q++) {
            if (q == p || !core[q]) {
                continue;
            }
            boolean near = gapBetween(p, q) <= reachNow;
            if (crowdOf[q] == crowdOf[p]) {
                hasMore = true;
                hasNear = hasNear || near;
            } else if (near) {
                return false;
            }
        }
        return hasNear || !hasMore;
    }

    // ---- one crowd

    private int pointsOf(int crowd) {
        int n = 0;
        for (int p = 0; p < MOST_POINTS; p++) {
            if (crowdOf[p] == crowd) {
                n++;
            }
        }
        return n;
    }

    private int coresOf(int crowd) {
        int n = 0;
        for (int p = 0; p < MOST_POINTS; p++) {
            if (core[p] && crowdOf[p] == crowd) {
                n++;
            }
        }
        return n;
    }

    private int weightsOf(int crowd) {
        int sum = 0;
        for (int p = 0; p < MOST_POINTS; p++) {
            if (crowdOf[p] == crowd) {
                sum += weights[p];
            }
        }
        return sum;
    }

    private int leastCoreOf(int crowd) {
        for (int p = 0; p < MOST_POINTS; p++) {
            if (core[p] && crowdOf[p] == crowd) {
                return p;
            }
        }
        return NONE;
    }

    private int leastOf(int[] places, int crowd) {
        int least = FARTHEST;
        for (int p = 0; p < MOST_POINTS && p < places.length; p++) {
            if (crowdOf[p] == crowd) {
                least = Math.min(least, places[p]);
            }
        }
        return least;
    }

    private int greatestOf(int[] places, int crowd) {
        int greatest = -FARTHEST;
        for (int p = 0; p < MOST_POINTS && p < places.length; p++) {
            if (crowdOf[p] == crowd) {
                greatest = Math.max(greatest, places[p]);
            }
        }
        return greatest;
    }

    // ---- from which reach on

    private void findCoreFrom() {
        if (coreFromKnown) {
            return;
        }
        for (int p = 0; p < MOST_POINTS; p++) {
            coreFrom[p] = weights[p] > 0 ? leastReachAsCore(p) : NONE;
        }
        coreFromKnown = true;
    }

    /** The gap of the last of the nearest points that are needed to bear the demand. */
    private long leastReachAsCore(int p) {
        int kept = 0;
        int borne = 0;
        for (int q = 0; q < MOST_POINTS; q++) {
            if (weights[q] == 0) {
                continue;
            }
            long gap = gapBetween(p, q);
            if (borne >= demandNow && gap >= lastGap(kept)) {
                continue;
            }
            kept = keepNear(kept, gap, weights[q]);
            borne += weights[q];
            // Those that are not needed go at once, so that the row stays short.
            while (kept > 0 && borne - nearWeight[kept - 1] >= demandNow) {
                kept--;
                borne -= nearWeight[kept];
            }
        }
        return borne >= demandNow ? lastGap(kept) : NONE;
    }

    private long lastGap(int kept) {
        return kept > 0 ? nearGap[kept - 1] : NONE;
    }

    private int keepNear(int kept, long gap, int weight) {
        // Each point is kept at most once, so there is always room; the test shows it.
        if (kept >= MOST_POINTS) {
            return kept;
        }
        int at = kept;
        while (at > 0 && nearGap[at - 1] > gap) {
            nearGap[at] = nearGap[at - 1];
            nearWeight[at] = nearWeight[at - 1];
            at--;
        }
        nearGap[at] = gap;
        nearWeight[at] = weight;
        return kept + 1;
    }

    /**
     * Settles points in the order of the reach from which on they hang together with p: that reach
     * is the greatest that a way to them asks for, on the way that asks for the least.
     */
    private long leastReachFrom(int p, int q) {
        for (int i = 0; i < MOST_POINTS; i++) {
            cost[i] = Long.MAX_VALUE;
            settled[i] = false;
        }
        cost[p] = coreFrom[p];
        for (int round = 0; round < MOST_POINTS; round++) {
            int next = cheapestUnsettled();
            if (next == NONE) {
                return NONE;
            }
            if (next == q) {
                return cost[q];
            }
            settled[next] = true;
            reachOnFrom(next);
        }
        return NONE;
    }

    private int cheapestUnsettled() {
        int best = NONE;
        for (int i = 0; i < MOST_POINTS; i++) {
            if (weights[i] > 0 && !settled[i] && (best == NONE || cost[i] < cost[best])) {
                best = i;
            }
        }
        return best;
    }

    private void reachOnFrom(int p) {
        for (int i = 0; i < MOST_POINTS; i++) {
            if (weights[i] > 0 && !settled[i]) {
                long both = Math.max(cost[p], coreFrom[i]);
                cost[i] = Math.min(cost[i], Math.max(both, gapBetween(p, i)));
            }
        }
    }
}
