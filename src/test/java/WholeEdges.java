import java.math.BigInteger;
import java.util.ArrayList;
import java.util.List;

/** The boundary cases of what would be, and of the whole: promises 32, 33, 36 and 37. */
final class WholeEdges {
    private final Edges edges;
    private final Check check;

    WholeEdges(Edges edges) {
        this.edges = edges;
        check = edges.check;
    }

    void run() {
        withGoal();
        withWay();
        isSound();
        soundStuck();
        digest();
    }

    private void withGoal() {
        edges.test(32, "if that PLACE belonged to the GOAL, too", () -> {
            Roadgame ring = Maps.ring(12, 0);
            String before = Check.wholeOf(ring);
            for (int p : new int[] {0, 11}) {
                check.same("withGoal(0, 0, " + p + "), the only one", ring.withGoal(0, 0, p), 4095);
                check.same("withGoal(1, 1, " + p + "), the only one", ring.withGoal(1, 1, p), 4095);
            }
            check.same("all, it is asked alone", Check.wholeOf(ring), before);
            Roadgame g = Maps.of(3, 0, 1, "0>0 1>1 2>2");
            check.same("withGoal(0, 0, 2), too", g.withGoal(0, 0, 2), 5);
            check.same("withGoal(1, 0, 2), too", g.withGoal(1, 0, 2), 5);
            check.same("withGoal(0, 0, 0), in it already", g.withGoal(0, 0, 0), 1);
            check.same("withGoal(1, 0, 0), in it already", g.withGoal(1, 0, 0), 1);
            check.same("withGoal(0, 0, 1), after the others", g.withGoal(0, 0, 1), 3);
            Roadgame stuck = Maps.of(2, 0, 0, "");
            check.same("withGoal(0, 0, 1), stuck there", stuck.withGoal(0, 0, 1), 2);
            check.same("withGoal(1, 0, 1), stuck there", stuck.withGoal(1, 0, 1), 0);
            check.same("withGoal(0, 1, 1), the other one stuck", stuck.withGoal(0, 1, 1), 3);
        });
        edges.outside(32, "place is not 0 to N - 1", Edges.place((g, v) -> g.withGoal(0, 0, v)));
        edges.illegal(32, "game is not 0 or 1, or side is not 0 or 1",
            Edges.number(0, 1, (g, v) -> g.withGoal(v, 0, 0)), Edges.number(0, 1, (g, v) -> g.withGoal(0, v, 0)));
    }

    private void withWay() {
        edges.test(33, "if there were that WAY, too (also if there are 30)", () -> {
            // 1 2 3 4 and 6 go to one another and to themselves, 0 alone goes to the goal 5.
            Roadgame g = Maps.of(7, 0, 32, "0>0 0>1 0>2 0>3 0>5");
            int[] apart = {1, 2, 3, 4, 6};
            for (int from : apart) {
                for (int to : apart) {
                    g.way(from, to);
                }
            }
            check.same("told(1)", g.told(1), 30);
            check.same("coming(0)", g.coming(0), 33);
            check.same("keeping(1)", g.keeping(1), 94);
            String before = Check.wholeOf(g);
            check.same("withWay(0, 0, 1, 5), the thirty-first", g.withWay(0, 0, 1, 5), 127);
            check.same("withWay(1, 1, 1, 5), of the other one", g.withWay(1, 1, 1, 5), 0);
            check.same("withWay(2, 0, 5, 0), the thirty-first", g.withWay(2, 0, 5, 0), 33);
            check.same("withWay(0, 0, 0, 5), there already", g.withWay(0, 0, 0, 5), 33);
            check.same("withWay(0, 0, 0, 6), after the others", g.withWay(0, 0, 0, 6), 33);
            check.same("all, it is asked alone", Check.wholeOf(g), before);
        });
        edges.test(33, "Returns all PLACES, as a SET, that it would have WON there", () -> {
            Roadgame g = new Roadgame();
            for (int game = 0; game <= 3; game++) {
                int to = game == 0 || game == 2 ? 0 : 32;
                check.same("withWay(" + game + ", 0, 5, 5), to itself", g.withWay(game, 0, 5, 5), to);
                int others = game == 1 ? 63 : 31;
                check.same("withWay(" + game + ", 1, 5, 5), of the other one", g.withWay(game, 1, 5, 5), others);
            }
            Roadgame ends = Maps.of(12, 0, 0, "11>11");
            ends.goal(2048);
            check.same("withWay(2, 0, 0, 11), from end to end", ends.withWay(2, 0, 0, 11), 2049);
            check.same("withWay(3, 0, 0, 11), from end to end", ends.withWay(3, 0, 0, 11), 2049);
            Roadgame ring = Maps.ring(3, 0);
            ring.rank(0, 1);
            ring.rank(1, 0);
            check.same("withWay(3, 0, 0, 0), of each rank", ring.withWay(3, 0, 0, 0), 7);
            ring.change();
            check.same("withWay(3, 1, 0, 0), of each rank", ring.withWay(3, 1, 0, 0), 7);
            check.same("withWay(3, 1, 1, 1), of each rank", ring.withWay(3, 1, 1, 1), 0);
        });
        edges.outside(33, "from or to is not 0 to N - 1",
            Edges.place((g, v) -> g.withWay(0, 0, v, 0)), Edges.place((g, v) -> g.withWay(0, 0, 0, v)));
        edges.illegal(33, "game is not 0 to 3, or side is not 0 or 1",
            Edges.number(0, 3, (g, v) -> g.withWay(v, 0, 0, 0)), Edges.number(0, 1, (g, v) -> g.withWay(0, v, 0, 0)));
    }

    private static List<Roadgame> maps() {
        List<Roadgame> games = new ArrayList<>(List.of(
            new Roadgame(), Maps.of(2, 0, 3, ""), Maps.of(2, 1, 0, "0>0"), Maps.ring(12, 0), Maps.ring(12, 4095),
            Maps.line(2048, 2), Maps.line(4095, 0), Maps.thirty(), Maps.four()));
        games.addAll(List.of(Maps.stuck(), Maps.lure(), Maps.busy(2), Maps.busy(6), Maps.busy(12)));
        for (int seed : new int[] {0, 1, 9998, 9999}) {
            for (int many : new int[] {2, 6, 12}) {
                Roadgame g = Maps.of(many, 0, 0, "");
                g.strew(seed);
                games.add(g);
            }
        }
        return games;
    }

    private void isSound() {
        edges.test(36, "It is always true", () -> {
            for (Roadgame g : maps()) {
                check.holds("isSound()", g.isSound());
                g.change();
                check.holds("isSound(), changed", g.isSound());
            }
        });
        edges.test(36, "COMING and the other one's KEEPING have no PLACE in common, and are all together", () -> {
            for (Roadgame g : maps()) {
                for (int side = 0; side <= 1; side++) {
                    check.same("in common", g.coming(side) & g.keeping(1 - side), 0);
                    check.same("together", g.coming(side) | g.keeping(1 - side), (1 << g.told(0)) - 1);
                }
            }
        });
        edges.test(36, "what can be seen to be in COMING next, and the GOAL, are COMING", () -> {
            for (Roadgame g : maps()) {
                for (int side = 0; side <= 1; side++) {
                    int coming = g.coming(side);
                    check.same("next, and the goal", (g.ahead(coming, side) | g.told(2)) & ~coming, 0);
                }
            }
        });
        edges.test(36, "each PLACE that is WON in AGAIN is WON in COMING, and what can be seen to be in AGAIN next is AGAIN", () -> {
            for (Roadgame g : maps()) {
                for (int side = 0; side <= 1; side++) {
                    int again = g.again(side);
                    check.same("in COMING", again & ~g.coming(side), 0);
                    check.same("next", g.ahead(again, side) & ~again, 0);
                }
            }
        });
    }

    private void soundStuck() {
        edges.test(36, "RANKED of both have no PLACE in common, and are all together", () -> {
            for (Roadgame g : maps()) {
                check.same("in common", g.ranked(0) & g.ranked(1), 0);
                check.same("together", g.ranked(0) | g.ranked(1), (1 << g.told(0)) - 1);
            }
        });
        edges.test(36, "a PLACE with no WAY from it is lost in RANKED by the SIDE whose it is", () -> {
            int met = 0;
            for (Roadgame g : maps()) {
                for (int p = 0; p < g.told(0); p++) {
                    if (g.ofPlace(p, 3) == 0) {
                        met++;
                        check.same("ranked() of its side", g.ranked(g.ofPlace(p, 0)) >> p & 1, 0);
                        check.same("ranked() of the other one", g.ranked(1 - g.ofPlace(p, 0)) >> p & 1, 1);
                    }
                }
            }
            check.holds("some were met", met > 5);
        });
    }

    private void digest() {
        edges.test(37, "A number d starts with 8031; then d becomes d * 31 + v, which wraps around as a 64-bit integer", () -> {
            List<Integer> seen = new ArrayList<>(List.of(6, 0, 0, 0, 0, 0, 6));
            for (int p = 0; p < 6; p++) {
                seen.addAll(List.of(0, 2, 0, 0, -1, 0, -1, 0));
            }
            seen.addAll(List.of(0, 0, 0, 0, 1, 1));
            seen.addAll(List.of(63, 63, 63, 63, 0, 1));
            seen.addAll(List.of(0, 0, 0, 1));
            check.same("digest() of a new one", new Roadgame().digest(), digestOf(seen));
        });
        edges.test(37, "told() of 0 to 6; PLACE by PLACE ofPlace() of 0 to 3, rounds() of SIDE 0 and 1, againRounds() of SIDE 0 and 1; SIDE by SIDE coming(), keeping(), again(), ranked(), falls(), choices(); house() of 0 to 2; 1 if isSound(), otherwise 0", () -> {
            // 0>0 of side 0 and rank 1 in the goal; 1>0 of side 1; nine acts done, one told -9, one knock.
            Roadgame g = Maps.of(2, 2, 1, "0>0 1>0");
            g.rank(0, 1);
            g.stand(1);
            g.go(0);
            g.go(1);
            g.knock();
            List<Integer> seen = new ArrayList<>(List.of(2, 2, 1, 2, 0, 1, 0));
            seen.addAll(List.of(0, 1, 1, 1, 0, 0, 0, 0));
            seen.addAll(List.of(1, 2, 0, 1, 1, 1, 1, 1));
            seen.addAll(List.of(3, 0, 3, 0, 0, 1));
            seen.addAll(List.of(3, 0, 3, 3, 0, 1));
            seen.addAll(List.of(9, 1, 1, 1));
            check.same("digest()", g.digest(), digestOf(seen));
            check.same("digest() again", g.digest(), digestOf(seen));
        });
    }

    /** Reckoned without end, and only then brought to 64 bits. */
    private static long digestOf(List<Integer> seen) {
        BigInteger d = BigInteger.valueOf(8031);
        for (int v : seen) {
            d = d.multiply(BigInteger.valueOf(31)).add(BigInteger.valueOf(v));
        }
        return d.longValue();
    }
}
