import java.util.ArrayList;
import java.util.Arrays;
import java.util.List;
import java.util.TreeSet;

/**
 * The document's words again, by other means than the class: what a side has won is found by trying
 * each of its choices and looking in the map that is left for a path on which it loses. That fixed
 * choices do as well as others in these games is well known.
 */
class Model {
    static final int COMING = 0;
    static final int KEEPING = 1;
    static final int AGAIN = 2;
    static final int RANKED = 3;
    /** Past so many choices of a side it takes too long to try them all. */
    private static final int MOST_CHOICES = 300;

    int n;
    boolean[][] way;
    int[] side;
    int[] rank;
    boolean[] goal;
    int stone;
    int gone;
    int done;
    int refused;

    Model() {
        reset(6);
    }

    void reset(int many) {
        n = many;
        way = new boolean[n][n];
        side = new int[n];
        rank = new int[n];
        Arrays.fill(rank, 2);
        goal = new boolean[n];
        stone = 0;
        gone = 0;
    }

    int countWays() {
        int count = 0;
        for (int p = 0; p < n; p++) {
            count += ways(p).size();
        }
        return count;
    }

    List<Integer> ways(int p) {
        List<Integer> found = new ArrayList<>();
        for (int q = 0; q < n; q++) {
            if (way[p][q]) {
                found.add(q);
            }
        }
        return found;
    }

    boolean isStuck(int p) {
        return ways(p).isEmpty();
    }

    static int setOf(boolean[] in) {
        int set = 0;
        for (int p = 0; p < in.length; p++) {
            if (in[p]) {
                set += Math.round(Math.pow(2, p));
            }
        }
        return set;
    }

    // ---- acts

    int places(int many) {
        int before = n;
        reset(many);
        done++;
        return before;
    }

    int give(int p, int s) {
        int before = side[p];
        side[p] = s;
        done++;
        return before;
    }

    int rank(int p, int r) {
        int before = rank[p];
        rank[p] = r;
        done++;
        return before;
    }

    int goal(int set) {
        int before = setOf(goal);
        for (int p = 0; p < n; p++) {
            goal[p] = set / (1 << p) % 2 == 1;
        }
        done++;
        return before;
    }

    int way(int from, int to) {
        if (!way[from][to] && countWays() == 30) {
            refused++;
            return -9;
        }
        int answer = way[from][to] ? 0 : 1;
        way[from][to] = true;
        done++;
        return answer;
    }

    int lose(int from, int to) {
        int answer = way[from][to] ? 1 : 0;
        way[from][to] = false;
        done++;
        return answer;
    }

    int circle(int step) {
        int missing = 0;
        for (int p = 0; p < n; p++) {
            missing += way[p][(p + step) % n] ? 0 : 1;
        }
        if (countWays() + missing > 30) {
            refused++;
            return -9;
        }
        for (int p = 0; p < n; p++) {
            way[p][(p + step) % n] = true;
        }
        done++;
        return missing;
    }

    int strew(int seed) {
        way = new boolean[n][n];
        for (int p = 0; p < n; p++) {
            int x = seed + 7 * p + p * p;
            side[p] = x % 2;
            rank[p] = x % 3;
            goal[p] = x % 5 == 0;
            way[p][x % n] = true;
            way[p][(3 * x + p) % n] = true;
        }
        done++;
        return countWays();
    }

    int change() {
        int zeros = 0;
        for (int p = 0; p < n; p++) {
            side[p] = 1 - side[p];
            zeros += 1 - side[p];
        }
        done++;
        return zeros;
    }

    int stand(int p) {
        int before = stone;
        stone = p;
        gone = 0;
        done++;
        return before;
    }

    int go(int to) {
        if (!way[stone][to]) {
            refused++;
            return -9;
        }
        stone = to;
        gone++;
        done++;
        return gone;
    }

    int follow(int game) {
        int to = choice(game, side[stone], stone);
        if (to < 0) {
            refused++;
            return -9;
        }
        go(to);
        return stone;
    }

    // ---- games

    boolean triesTooMany() {
        return choices(0) > MOST_CHOICES || choices(1) > MOST_CHOICES;
    }

    boolean mayBeReckoned() {
        return !triesTooMany();
    }

    /** The places from which one of the side's choices wins each play. */
    boolean[] won(int game, int s) {
        return won(game, s, goal, way);
    }

    boolean[] won(int game, int s, boolean[] goals, boolean[][] ways) {
        boolean[] union = new boolean[n];
        int[] pick = new int[n];
        do {
            boolean[][] left = leftBy(s, pick, ways);
            boolean[] bad = losing(game, s, goals, left);
            for (int p = 0; p < n; p++) {
                union[p] |= !bad[p];
            }
        } while (nextPick(s, pick, ways));
        return union;
    }

    private boolean nextPick(int s, int[] pick, boolean[][] ways) {
        for (int p = 0; p < n; p++) {
            if (side[p] == s) {
                pick[p]++;
                if (pick[p] < degree(ways[p])) {
                    return true;
                }
                pick[p] = 0;
            }
        }
        return false;
    }

    private static int degree(boolean[] row) {
        int count = 0;
        for (boolean there : row) {
            count += there ? 1 : 0;
        }
        return count;
    }

    private boolean[][] leftBy(int s, int[] pick, boolean[][] ways) {
        boolean[][] left = new boolean[n][];
        for (int p = 0; p < n; p++) {
            left[p] = ways[p].clone();
            if (side[p] == s) {
                int met = 0;
                for (int q = 0; q < n; q++) {
                    if (ways[p][q]) {
                        left[p][q] = met == pick[p];
                        met++;
                    }
                }
            }
        }
        return left;
    }

    /** From which places some path over these ways is a play that the side loses. */
    private boolean[] losing(int game, int s, boolean[] goals, boolean[][] left) {
        boolean[] every = new boolean[n];
        Arrays.fill(every, true);
        boolean[] noGoal = new boolean[n];
        boolean[] end = new boolean[n];
        for (int p = 0; p < n; p++) {
            noGoal[p] = !goals[p];
            end[p] = degree(left[p]) == 0 && side[p] == s;
        }
        switch (game) {
            case COMING:
                for (int p = 0; p < n; p++) {
                    end[p] = (end[p] || onCycle(p, left, noGoal)) && noGoal[p];
                }
                return leadingTo(end, left, noGoal);
            case KEEPING:
                for (int p = 0; p < n; p++) {
                    end[p] |= goals[p];
                }
                return leadingTo(end, left, every);
            case AGAIN:
                for (int p = 0; p < n; p++) {
                    end[p] |= onCycle(p, left, noGoal);
                }
                return leadingTo(end, left, every);
            default:
                for (int p = 0; p < n; p++) {
                    boolean[] notLess = new boolean[n];
                    for (int q = 0; q < n; q++) {
                        notLess[q] = rank[q] >= rank[p];
                    }
                    end[p] |= rank[p] % 2 != s && onCycle(p, left, notLess);
                }
                return leadingTo(end, left, every);
        }
    }

    private boolean onCycle(int p, boolean[][] left, boolean[] within) {
        if (!within[p]) {
            return false;
        }
        boolean[] target = new boolean[n];
        target[p] = true;
        boolean[] back = leadingTo(target, left, within);
        for (int q = 0; q < n; q++) {
            if (left[p][q] && within[q] && back[q]) {
                return true;
            }
        }
        return false;
    }

    /** The places of within from which a path inside of within comes to one of the ends. */
    private boolean[] leadingTo(boolean[] end, boolean[][] left, boolean[] within) {
        boolean[] leads = new boolean[n];
        for (int p = 0; p < n; p++) {
            leads[p] = end[p] && within[p];
        }
        for (int k = 0; k < n; k++) {
            for (int p = 0; p < n; p++) {
                for (int q = 0; q < n; q++) {
                    leads[p] |= within[p] && left[p][q] && leads[q];
                }
            }
        }
        return leads;
    }

    boolean[] ahead(boolean[] set, int s) {
        boolean[] sees = new boolean[n];
        for (int p = 0; p < n; p++) {
            boolean any = false;
            boolean each = true;
            for (int q : ways(p)) {
                any |= set[q];
                each &= set[q];
            }
            sees[p] = side[p] == s ? any : each;
        }
        return sees;
    }

    boolean[] goalWithin(boolean[] set) {
        boolean[] both = new boolean[n];
        for (int p = 0; p < n; p++) {
            both[p] = goal[p] && set[p];
        }
        return both;
    }

    int falls(int s) {
        boolean[] left = new boolean[n];
        Arrays.fill(left, true);
        for (int count = 0; ; count++) {
            boolean[] still = won(COMING, s, goalWithin(ahead(left, s)), way);
            boolean out = false;
            for (int p = 0; p < n; p++) {
                if (left[p] && !still[p]) {
                    out = true;
                    left[p] = false;
                }
            }
            if (!out) {
                return count;
            }
        }
    }

    /** By the document's own words on rounds, from 0 up; -1 where the side has not won it. */
    int[] rounds(int game, int s) {
        boolean[] winning = won(game, s);
        int[] found = new int[n];
        Arrays.fill(found, -1);
        for (int p = 0; p < n; p++) {
            if (winning[p] && (goal[p] || side[p] != s && isStuck(p))) {
                found[p] = 0;
            }
        }
        for (int k = 1; k <= n; k++) {
            int[] before = found.clone();
            for (int p = 0; p < n; p++) {
                if (winning[p] && found[p] < 0) {
                    found[p] = oneMore(before, p, s, winning);
                }
            }
        }
        return found;
    }

    private int oneMore(int[] known, int p, int s, boolean[] winning) {
        int least = -1;
        int greatest = -1;
        for (int q : ways(p)) {
            if (known[q] < 0 && side[p] != s) {
                return -1;
            }
            if (known[q] >= 0 && winning[q]) {
                least = least < 0 ? known[q] : Math.min(least, known[q]);
                greatest = Math.max(greatest, known[q]);
            }
        }
        int due = side[p] == s ? least : greatest;
        return due < 0 ? -1 : due + 1;
    }

    int choice(int game, int s, int p) {
        boolean[] winning = won(game, s);
        if (side[p] != s || !winning[p]) {
            return -1;
        }
        if (game == KEEPING || game == AGAIN && goal[p]) {
            for (int q : ways(p)) {
                if (winning[q]) {
                    return q;
                }
            }
            return -1;
        }
        int[] known = rounds(game, s);
        for (int q : ways(p)) {
            if (!goal[p] && known[q] == known[p] - 1) {
                return q;
            }
        }
        return -1;
    }

    String play(int s, int p) {
        StringBuilder text = new StringBuilder("" + p);
        TreeSet<Integer> been = new TreeSet<>();
        int at = p;
        while (been.add(at) && !isStuck(at)) {
            int to = choice(side[at] == s ? COMING : KEEPING, side[at], at);
            at = to < 0 ? ways(at).get(0) : to;
            text.append("-").append(at);
        }
        return text.toString();
    }

    int choices(int s) {
        int product = 1;
        for (int p = 0; p < n; p++) {
            if (side[p] == s && !isStuck(p)) {
                product *= ways(p).size();
            }
        }
        return product;
    }

    boolean[] withGoal(int game, int s, int p) {
        boolean[] goals = goal.clone();
        goals[p] = true;
        return won(game == 0 ? COMING : AGAIN, s, goals, way);
    }

    boolean[] withWay(int game, int s, int from, int to) {
        boolean[][] ways = new boolean[n][];
        for (int p = 0; p < n; p++) {
            ways[p] = way[p].clone();
        }
        ways[from][to] = true;
        return won(game, s, goal, ways);
    }
}
