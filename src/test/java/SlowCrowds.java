import java.util.ArrayList;
import java.util.List;
import java.util.TreeMap;
import java.util.TreeSet;

/**
 * The document's terms once more, each by its own words and without regard to speed, to compare
 * PointCrowds with. It keeps nothing but the points, the way, the reach and the demand, and it
 * takes only sound arguments: what is said of wrong ones is tested by hand.
 */
final class SlowCrowds {
    record Spot(int x, int y, int weight) {}

    final TreeMap<Integer, Spot> points = new TreeMap<>();
    int way = 0;
    long reach = 0;
    int demand = 1;

    boolean has(int p) {
        return points.containsKey(p);
    }

    int leastFree() {
        int p = 0;
        while (has(p)) {
            p++;
        }
        return p;
    }

    long distance(int x1, int y1, int x2, int y2) {
        long dx = x1 > x2 ? (long) x1 - x2 : (long) x2 - x1;
        long dy = y1 > y2 ? (long) y1 - y2 : (long) y2 - y1;
        return switch (way) {
            case 0 -> Math.addExact(Math.multiplyExact(dx, dx), Math.multiplyExact(dy, dy));
            case 1 -> dx > dy ? dx : dy;
            default -> dx + dy;
        };
    }

    long distance(int p, int q) {
        Spot a = points.get(p);
        Spot b = points.get(q);
        return distance(a.x(), a.y(), b.x(), b.y());
    }

    int around(int p, long r) {
        return points.keySet().stream()
                .filter(q -> distance(p, q) <= r)
                .mapToInt(q -> points.get(q).weight())
                .sum();
    }

    boolean isCore(int p, long r) {
        return around(p, r) >= demand;
    }

    /** The crowds by their numbers, each the set of its cores, found by joining sets. */
    List<TreeSet<Integer>> crowds(long r) {
        List<TreeSet<Integer>> all = new ArrayList<>();
        for (int p : points.keySet()) {
            if (!isCore(p, r)) {
                continue;
            }
            TreeSet<Integer> joined = new TreeSet<>(List.of(p));
            List<TreeSet<Integer>> kept = new ArrayList<>();
            for (TreeSet<Integer> one : all) {
                if (one.stream().anyMatch(q -> distance(p, q) <= r)) {
                    joined.addAll(one);
                } else {
                    kept.add(one);
                }
            }
            kept.add(joined);
            all = kept;
        }
        all.sort((a, b) -> Integer.compare(a.first(), b.first()));
        return all;
    }

    int belongs(List<TreeSet<Integer>> crowds, int x, int y) {
        for (int c = 0; c < crowds.size(); c++) {
            for (int q : crowds.get(c)) {
                if (distance(x, y, points.get(q).x(), points.get(q).y()) <= reach) {
                    return c;
                }
            }
        }
        return -1;
    }

    int crowdOf(List<TreeSet<Integer>> crowds, int p) {
        for (int c = 0; c < crowds.size(); c++) {
            if (crowds.get(c).contains(p)) {
                return c;
            }
        }
        return belongs(crowds, points.get(p).x(), points.get(p).y());
    }

    int kindOf(List<TreeSet<Integer>> crowds, int p) {
        if (isCore(p, reach)) {
            return 2;
        }
        return crowdOf(crowds, p) == -1 ? 0 : 1;
    }

    int count(int what) {
        List<TreeSet<Integer>> crowds = crowds(reach);
        return switch (what) {
            case 0 -> crowds.size();
            case 1, 2, 3 ->
                    (int) points.keySet().stream().filter(p -> kindOf(crowds, p) == 3 - what).count();
            case 4 -> points.size();
            case 5 -> points.values().stream().mapToInt(Spot::weight).sum();
            default -> -1;
        };
    }

    int about(int crowd, int what) {
        List<TreeSet<Integer>> crowds = crowds(reach);
        if (crowd < 0 || crowd >= crowds.size()) {
            return -1;
        }
        List<Spot> spots = new ArrayList<>();
        for (int p : points.keySet()) {
            if (crowdOf(crowds, p) == crowd) {
                spots.add(points.get(p));
            }
        }
        return switch (what) {
            case 0 -> spots.size();
            case 1 -> crowds.get(crowd).size();
            case 2 -> spots.stream().mapToInt(Spot::weight).sum();
            case 3 -> crowds.get(crowd).first();
            case 4 -> spots.stream().mapToInt(Spot::x).min().getAsInt();
            case 5 -> spots.stream().mapToInt(Spot::y).min().getAsInt();
            case 6 -> spots.stream().mapToInt(Spot::x).max().getAsInt();
            case 7 -> spots.stream().mapToInt(Spot::y).max().getAsInt();
            default -> -1;
        };
    }

    boolean meetAt(int p, int q, long r) {
        return crowds(r).stream().anyMatch(one -> one.contains(p) && one.contains(q));
    }

    /** All reaches at which anything can change. */
    TreeSet<Long> turns() {
        TreeSet<Long> turns = new TreeSet<>();
        for (int p : points.keySet()) {
            for (int q : points.keySet()) {
                turns.add(distance(p, q));
            }
        }
        return turns;
    }

    long dense(int p) {
        for (long r : turns()) {
            if (isCore(p, r)) {
                return r;
            }
        }
        return -1;
    }

    long meet(int p, int q) {
        for (long r : turns()) {
            if (meetAt(p, q, r)) {
                return r;
            }
        }
        return -1;
    }
}
