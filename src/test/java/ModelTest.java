import java.util.ArrayList;
import java.util.List;
import java.util.Random;
import java.util.TreeSet;

/** Long runs of mixed calls, each answer compared with the one of SlowCrowds. */
public final class ModelTest {
    private static final int CALLS = 512;
    private static final int MOST_AT_ONCE = 40;
    private static final int FARTHEST = 1073741823;

    private final Due due;
    private final Random random;
    private final int spread;
    private final int mostPoints;
    private final int askedBefore;
    private final PointCrowds x = new PointCrowds();
    private final SlowCrowds slow = new SlowCrowds();

    private ModelTest(Due due, long seed, int spread, int mostPoints) {
        this.due = due;
        this.random = new Random(seed);
        this.spread = spread;
        this.mostPoints = mostPoints;
        this.askedBefore = due.askedSoFar();
    }

    public static void main(String[] args) {
        Due due = new Due("ModelTest");
        int[] spreads = {0, 2, 6, 15, 100, 40000, FARTHEST};
        for (int seed = 0; seed < 140 && due.wrongSoFar() == 0; seed++) {
            new ModelTest(due, seed, spreads[seed % spreads.length], 3 + seed % 12).run();
        }
        for (int seed = 0; seed < 7 && due.wrongSoFar() == 0; seed++) {
            new ModelTest(due, 1000 + seed, Math.max(20, spreads[seed]), 120).runFull();
        }
        due.end();
    }

    private void run() {
        while (hasCallsLeft()) {
            if (random.nextInt(3) == 0) {
                change();
            } else {
                ask();
            }
        }
    }

    /** Beyond 512 calls the document leaves every answer free. */
    private boolean hasCallsLeft() {
        return due.askedSoFar() - askedBefore <= CALLS - MOST_AT_ONCE;
    }

    /** All 120 points at once, with few of the dear questions, which the slow one can't do often. */
    private void runFull() {
        for (int i = 0; i < 120; i++) {
            add();
        }
        due.same("point beyond 120", x.point(0, 0, 1), -1);
        while (hasCallsLeft()) {
            changeSettings();
            if (random.nextInt(4) == 0) {
                changePoint();
            }
            List<TreeSet<Integer>> crowds = slow.crowds(slow.reach);
            for (int k = 0; k < 5; k++) {
                askPoint(anyNumber(), crowds);
            }
            askCount(random.nextInt(6));
            askAbout(random.nextInt(crowds.size() + 1), random.nextInt(8));
            askTurns(anyNumber(), anyNumber());
        }
    }

    private void change() {
        if (random.nextInt(3) == 0) {
            changeSettings();
        } else {
            changePoint();
        }
    }

    private void changePoint() {
        int p = anyNumber();
        if (slow.points.size() < mostPoints && random.nextInt(2) == 0) {
            add();
        } else if (random.nextInt(2) == 0) {
            boolean had = slow.points.remove(p) != null;
            due.same("remove(" + p + ")", x.remove(p), had ? slow.points.size() : -1);
        } else {
            int toX = place();
            int toY = place();
            due.same("move(" + p + ", ..)", x.move(p, toX, toY), slow.has(p) ? 1 : 0);
            if (slow.has(p)) {
                slow.points.put(p, new SlowCrowds.Spot(toX, toY, slow.points.get(p).weight()));
            }
        }
    }

    private void add() {
        SlowCrowds.Spot spot = new SlowCrowds.Spot(place(), place(), 1 + random.nextInt(20));
        int p = slow.leastFree();
        due.same("point(..)", x.point(spot.x(), spot.y(), spot.weight()), p);
        slow.points.put(p, spot);
    }

    private void changeSettings() {
        int which = random.nextInt(3);
        if (which == 0) {
            slow.way = random.nextInt(3);
            due.same("way", x.way(slow.way), 1);
        } else if (which == 1) {
            slow.reach = anyReach();
            due.same("reach", x.reach(slow.reach), 1);
        } else {
            int all = slow.count(5);
            slow.demand = 1 + random.nextInt(random.nextBoolean() ? 40 : Math.max(1, all + all / 8));
            due.same("demand", x.demand(slow.demand), 1);
        }
    }

    private void ask() {
        List<TreeSet<Integer>> crowds = slow.crowds(slow.reach);
        switch (random.nextInt(6)) {
            case 0, 1 -> askPoint(anyNumber(), crowds);
            case 2 -> askCount(random.nextInt(6));
            case 3 -> askAbout(random.nextInt(crowds.size() + 1), random.nextInt(8));
            case 4 -> askPlace(crowds);
            default -> askMeet(anyNumber(), anyNumber());
        }
    }

    private void askPoint(int p, List<TreeSet<Integer>> crowds) {
        boolean has = slow.has(p);
        due.same("kind(" + p + ")", x.kind(p), has ? slow.kindOf(crowds, p) : -1);
        due.same("crowd(" + p + ")", x.crowd(p), has ? slow.crowdOf(crowds, p) : -1);
        due.same("around(" + p + ")", x.around(p), has ? slow.around(p, slow.reach) : -1);
        due.same("dense(" + p + ")", x.dense(p), has ? slow.dense(p) : -1);
        int q = anyNumber();
        due.same("distance(" + p + ", " + q + ")", x.distance(p, q),
                has && slow.has(q) ? slow.distance(p, q) : -1);
    }

    private void askCount(int what) {
        due.same("count(" + what + ")", x.count(what), slow.count(what));
    }

    private void askAbout(int crowd, int what) {
        due.same("about(" + crowd + ", " + what + ")", x.about(crowd, what), slow.about(crowd, what));
    }

    private void askPlace(List<TreeSet<Integer>> crowds) {
        int atX = place();
        int atY = place();
        due.same("belongs(..)", x.belongs(atX, atY), slow.belongs(crowds, atX, atY));
        long other = anyReach();
        due.same("crowds(" + other + ")", x.crowds(other), slow.crowds(other).size());
        due.same("check()", x.check(), 1);
    }

    private void askMeet(int p, int q) {
        due.same("meet(" + p + ", " + q + ")", x.meet(p, q),
                slow.has(p) && slow.has(q) ? slow.meet(p, q) : -1);
    }

    /** Being a core and hanging together last when the reach grows: two reaches show the least. */
    private void askTurns(int p, int q) {
        if (!slow.has(p) || !slow.has(q)) {
            return;
        }
        long meet = x.meet(p, q);
        if (meet == -1) {
            due.holds("two points meet nowhere", !slow.meetAt(p, q, Long.MAX_VALUE));
            return;
        }
        due.holds("two points meet at " + meet, slow.meetAt(p, q, meet));
        due.holds("two points do not meet before " + meet,
                meet == 0 || !slow.meetAt(p, q, meet - 1));
        due.same("crowds(" + meet + ")", x.crowds(meet), slow.crowds(meet).size());
    }

    private int place() {
        int at = random.nextInt(2 * spread + 1) - spread;
        return spread == FARTHEST && random.nextInt(4) == 0 ? (at < 0 ? -FARTHEST : FARTHEST) : at;
    }

    private int anyNumber() {
        List<Integer> numbers = new ArrayList<>(slow.points.keySet());
        if (numbers.isEmpty() || random.nextInt(10) == 0) {
            return random.nextInt(124) - 2;
        }
        return numbers.get(random.nextInt(numbers.size()));
    }

    /** Mostly a reach at which something changes, or just before. */
    private long anyReach() {
        List<Long> turns = new ArrayList<>(slow.turns());
        if (turns.isEmpty() || random.nextInt(10) == 0) {
            return random.nextBoolean() ? Long.MAX_VALUE : random.nextInt(100);
        }
        int most = random.nextBoolean() ? turns.size() : 1 + turns.size() / 8;
        return Math.max(0, turns.get(random.nextInt(most)) - random.nextInt(2));
    }
}
