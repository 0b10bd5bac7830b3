/** Maps that several tests use. */
final class Maps {
    private Maps() {
    }

    /** The places of side 1 and of the goal as sets, the ways as "0>1 1>1". */
    static Roadgame of(int many, int second, int goal, String ways) {
        Roadgame g = new Roadgame();
        g.places(many);
        for (int p = 0; p < many; p++) {
            g.give(p, second >> p & 1);
        }
        g.goal(goal);
        for (String way : ways.split(" ")) {
            String[] ends = way.split(">");
            if (ends.length == 2) {
                g.way(Integer.parseInt(ends[0]), Integer.parseInt(ends[1]));
            }
        }
        return g;
    }

    /** Sides 0 1 0 1, goal 3: side 0 brings about that 3 comes from everywhere, side 1 from 1 and 3. */
    static Roadgame four() {
        return of(4, 10, 8, "0>1 0>2 1>0 1>3 2>3 3>2 2>0");
    }

    /** Place 0 of side 0 and place 1 of side 1 have no way; 2 of side 0 goes to both. */
    static Roadgame stuck() {
        return of(3, 2, 0, "2>0 2>1");
    }

    /** Goal 1 and 2, but from 1 it goes to 3 and stays there: only 2 comes again. All is of side 0. */
    static Roadgame lure() {
        return of(4, 0, 6, "0>1 0>2 1>3 3>3 2>0");
    }

    /** Twelve places of one rank, all of side 0, from each a way to the next one; at the last one it is stuck. */
    static Roadgame line(int goal, int rank) {
        Roadgame g = of(12, 0, goal, "");
        for (int p = 0; p < 11; p++) {
            g.way(p, p + 1);
            g.rank(p, rank);
        }
        g.rank(11, rank);
        return g;
    }

    /** Places of side 0, from each a way to the next one, from the last one to 0. */
    static Roadgame ring(int many, int goal) {
        Roadgame g = of(many, 0, goal, "");
        g.circle(1);
        return g;
    }

    /** Six places, from each ways to all but the one before it: thirty of thirty-six. */
    static Roadgame thirty() {
        Roadgame g = new Roadgame();
        for (int step = 0; step < 5; step++) {
            g.circle(step);
        }
        return g;
    }

    /** Nothing is as at first: sides, ranks, goal, ways, the stone's rounds, what is counted. */
    static Roadgame busy(int many) {
        Roadgame g = ring(many, 1 | 1 << many - 1);
        g.way(many - 1, many - 1);
        for (int p = 0; p < many; p++) {
            g.give(p, p % 2);
            g.rank(p, p % 3);
        }
        g.stand(many - 2);
        g.go(many - 2);
        g.go(many - 1);
        g.knock();
        return g;
    }
}
