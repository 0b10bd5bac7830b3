/**
 * The model once more, but what a side has won is found by Zielonka's way of taking the places of the
 * least rank first, so that maps on which a side has far too many choices to try them can be reckoned.
 * Each game is laid out as ranks, with two places more: at n side 0 has won, at n + 1 side 1.
 */
final class Solver extends Model {
    private final int[] laidRank = new int[14];
    private final int[] laidSide = new int[14];
    private final int[] laidNext = new int[14];

    @Override
    boolean mayBeReckoned() {
        return true;
    }

    @Override
    boolean[] won(int game, int s, boolean[] goals, boolean[][] ways) {
        lay(game, s, goals, ways);
        int first = wonByZero((1 << n + 2) - 1);
        boolean[] found = new boolean[n];
        for (int p = 0; p < n; p++) {
            found[p] = (first >> p & 1) == (s == 0 ? 1 : 0);
        }
        return found;
    }

    private void lay(int game, int s, boolean[] goals, boolean[][] ways) {
        for (int p = 0; p < n; p++) {
            laidSide[p] = side[p];
            laidNext[p] = setOf(ways[p]);
            if (laidNext[p] == 0) {
                laidNext[p] = 1 << n + 1 - side[p];
            }
            if (goals[p] && (game == COMING || game == KEEPING)) {
                laidNext[p] = 1 << n + (game == COMING ? s : 1 - s);
            }
            laidRank[p] = laidRankOf(game, s, p, goals[p]);
        }
        for (int p = n; p <= n + 1; p++) {
            laidSide[p] = 0;
            laidNext[p] = 1 << p;
            laidRank[p] = p - n;
        }
    }

    /** Even where a play that stays on such places for ever is won by side 0. */
    private int laidRankOf(int game, int s, int p, boolean inGoal) {
        switch (game) {
            case COMING:
                return 1 - s;
            case KEEPING:
                return s;
            case AGAIN:
                return inGoal ? s : s + 1;
            default:
                return rank[p];
        }
    }

    private int wonByZero(int places) {
        if (places == 0) {
            return 0;
        }
        int least = 2;
        int lowest = 0;
        for (int p = 0; p <= n + 1; p++) {
            if ((places >> p & 1) == 1 && laidRank[p] <= least) {
                lowest = laidRank[p] < least ? 1 << p : lowest | 1 << p;
                least = laidRank[p];
            }
        }
        int winner = least % 2;
        int rest = places & ~drawn(lowest, winner, places);
        int restOfZero = wonByZero(rest);
        int restOfOther = winner == 0 ? rest & ~restOfZero : restOfZero;
        if (restOfOther == 0) {
            return winner == 0 ? places : 0;
        }
        int lost = drawn(restOfOther, 1 - winner, places);
        int kept = wonByZero(places & ~lost);
        return winner == 0 ? kept : kept | lost;
    }

    /** From where the side can bring about, within these places, that one of the set comes. */
    private int drawn(int set, int s, int places) {
        int found = set;
        boolean more = true;
        while (more) {
            more = false;
            for (int p = 0; p <= n + 1; p++) {
                int to = laidNext[p] & places;
                boolean comes = laidSide[p] == s ? (to & found) != 0 : (to & ~found) == 0;
                if (comes && (places & ~found & 1 << p) != 0) {
                    found |= 1 << p;
                    more = true;
                }
            }
        }
        return found;
    }
}
