/** The boundary cases of what is won, and in how many rounds: "Games", and promises 19 to 26. */
final class GameEdges {
    private final Edges edges;
    private final Check check;

    GameEdges(Edges edges) {
        this.edges = edges;
        check = edges.check;
    }

    void run() {
        plays();
        comingOfTheDescription();
        againOfTheDescription();
        rankedOfTheDescription();
        won();
        roundsOfTheDescription();
        againRoundsOfTheDescription();
        coming();
        keeping();
        again();
        ranked();
        winner();
        rounds();
        againRounds();
        falls();
        fallsByTheGoal();
    }

    private void wonIs(String where, Roadgame g, int[] first, int[] second) {
        int[][] due = {first, second};
        for (int side = 0; side <= 1; side++) {
            check.same(where + ", coming(" + side + ")", g.coming(side), due[side][0]);
            check.same(where + ", keeping(" + side + ")", g.keeping(side), due[side][1]);
            check.same(where + ", again(" + side + ")", g.again(side), due[side][2]);
            check.same(where + ", ranked(" + side + ")", g.ranked(side), due[side][3]);
        }
    }

    private static int[] sets(int coming, int keeping, int again, int ranked) {
        return new int[] {coming, keeping, again, ranked};
    }

    private void plays() {
        edges.test("Games", "and so on, without end", () -> {
            Roadgame g = Maps.of(2, 0, 0, "0>0 1>1");
            wonIs("to itself, no goal", g, sets(0, 3, 0, 3), sets(0, 3, 0, 0));
            wonIs("a ring of twelve, no goal", Maps.ring(12, 0), sets(0, 4095, 0, 4095), sets(0, 4095, 0, 0));
        });
        edges.test("Games", "a SIDE that is at a PLACE of its own with no WAY from it is STUCK, and the PLAY ends there", () -> {
            wonIs("new", new Roadgame(), sets(0, 0, 0, 0), sets(63, 63, 63, 63));
            Roadgame changed = new Roadgame();
            changed.change();
            wonIs("new, changed", changed, sets(63, 63, 63, 63), sets(0, 0, 0, 0));
            wonIs("a way to where it is stuck", Maps.of(2, 0, 0, "0>1"), sets(0, 0, 0, 0), sets(3, 3, 3, 3));
            wonIs("a way to itself alone", Maps.of(2, 0, 0, "0>1 1>1"), sets(0, 3, 0, 3), sets(0, 3, 0, 0));
            wonIs("either stuck", Maps.stuck(), sets(6, 6, 6, 6), sets(1, 1, 1, 1));
        });
    }

    private void comingOfTheDescription() {
        edges.test("Games", "it wins a PLAY if a PLACE of the GOAL comes in it (also as the first one)", () -> {
            Roadgame first = Maps.of(2, 0, 1, "0>1 1>1");
            check.same("coming(0), as the first one alone", first.coming(0), 1);
            check.same("coming(1), as the first one alone", first.coming(1), 1);
            Roadgame last = Maps.of(12, 0, 2048, "");
            last.circle(1);
            last.lose(11, 0);
            check.same("coming(0), as the last one", last.coming(0), 4095);
        });
        edges.test("Games", "or the other SIDE is STUCK", () -> {
            Roadgame g = Maps.of(2, 2, 0, "0>1");
            check.same("coming(0), no goal", g.coming(0), 3);
            check.same("again(0), no goal", g.again(0), 3);
            check.same("coming(1), stuck itself", g.coming(1), 0);
            check.same("again(1), stuck itself", g.again(1), 0);
        });
        edges.test("Games", "once it has won, nothing that comes later matters", () -> {
            Roadgame g = Maps.of(3, 0, 2, "0>1 1>2");
            check.same("coming(0), stuck after the goal", g.coming(0), 3);
            check.same("keeping(1), stuck after the goal", g.keeping(1), 4);
            Roadgame in = Maps.of(2, 0, 1, "1>0");
            check.same("coming(0), stuck in the goal", in.coming(0), 3);
            check.same("keeping(1), stuck in the goal", in.keeping(1), 0);
        });
        edges.test("Games", "KEEPING (for a SIDE): it wins a PLAY that the other SIDE does not win in COMING", () -> {
            // Without end at 0, side 1 stuck at 1, side 0 stuck at 2, and at 3 side 1 stuck in the goal.
            Roadgame g = Maps.of(4, 10, 8, "0>0");
            check.same("keeping(0)", g.keeping(0), 3);
            check.same("keeping(1)", g.keeping(1), 5);
        });
    }

    private void againOfTheDescription() {
        edges.test("Games", "it wins a PLAY if PLACES of the GOAL come in it without end", () -> {
            // One of two comes again; one comes once; both by turns.
            check.same("again(0), one of two", Maps.of(2, 0, 1, "0>1 1>0").again(0), 3);
            check.same("again(0), once", Maps.of(2, 0, 1, "0>1 1>1").again(0), 0);
            check.same("again(0), by turns", Maps.of(2, 0, 3, "0>1 1>0").again(0), 3);
            check.same("again(0), twice, no more", Maps.of(3, 0, 3, "0>1 1>2 2>2").again(0), 0);
            check.same("again(1), by the other one's ways", Maps.of(2, 0, 1, "0>1 1>0").again(1), 3);
        });
        edges.test("Games", "otherwise the other one wins", () -> {
            Roadgame stuck = Maps.of(2, 0, 3, "0>1");
            check.same("again(0), stuck in the goal", stuck.again(0), 0);
            check.same("winner(2, 1), stuck in the goal", stuck.winner(2, 1), 1);
            Roadgame once = Maps.of(2, 0, 1, "0>1 1>1");
            check.same("winner(2, 0), the goal once", once.winner(2, 0), 1);
            check.same("winner(3, 0), the goal once", once.winner(3, 0), 0);
        });
    }

    private static Roadgame withRanks(Roadgame g, int... ranks) {
        for (int p = 0; p < ranks.length; p++) {
            g.rank(p, ranks[p]);
        }
        return g;
    }

    private void rankedOfTheDescription() {
        edges.test("Games", "of the RANKS of PLACES that come without end the least one is looked at", () -> {
            Roadgame once = withRanks(Maps.of(2, 0, 0, "0>1 1>1"), 0, 1);
            check.same("ranked(1), rank 0 comes once", once.ranked(1), 3);
            Roadgame odd = withRanks(Maps.of(2, 0, 0, "0>1 1>1"), 1, 2);
            check.same("ranked(0), rank 1 comes once", odd.ranked(0), 3);
            check.same("ranked(1), 1 and 2", withRanks(Maps.ring(2, 0), 1, 2).ranked(1), 3);
            check.same("ranked(0), 1 and 0", withRanks(Maps.ring(2, 0), 1, 0).ranked(0), 3);
            check.same("ranked(0), 2, 1 and 0", withRanks(Maps.ring(3, 0), 2, 1, 0).ranked(0), 7);
        });
        edges.test("Games", "if it is even, SIDE 0 wins, otherwise SIDE 1", () -> {
            Roadgame g = withRanks(Maps.of(3, 0, 0, "0>0 1>1 2>2"), 0, 1, 2);
            check.same("ranked(0)", g.ranked(0), 5);
            check.same("ranked(1)", g.ranked(1), 2);
            g.change();
            check.same("ranked(0), whosever they are", g.ranked(0), 5);
            check.same("ranked(1), whosever they are", g.ranked(1), 2);
        });
        edges.test("Games", "who is STUCK loses", () -> {
            for (int rank = 0; rank <= 2; rank++) {
                Roadgame g = withRanks(Maps.of(2, 2, 0, ""), rank, rank);
                check.same("ranked(0), rank " + rank, g.ranked(0), 2);
                check.same("ranked(1), rank " + rank, g.ranked(1), 1);
            }
        });
    }

    private void won() {
        edges.test("Games", "if it can choose so that it wins each PLAY that begins there, whatever the other one chooses", () -> {
            Roadgame g = withRanks(Maps.of(3, 0, 2, "0>1 0>2 1>1 2>2"), 2, 2, 1);
            wonIs("a fork of side 0", g, sets(3, 5, 3, 3), sets(2, 4, 2, 4));
            Roadgame changed = withRanks(Maps.of(3, 1, 2, "0>1 0>2 1>1 2>2"), 2, 2, 1);
            wonIs("a fork of side 1", changed, sets(2, 4, 2, 2), sets(3, 5, 3, 5));
        });
    }

    private void roundsIs(String where, Roadgame g, int side, int... due) {
        for (int p = 0; p < due.length; p++) {
            check.same(where + ", rounds(" + side + ", " + p + ")", g.rounds(side, p), due[p]);
        }
    }

    private void againRoundsIs(String where, Roadgame g, int side, int... due) {
        for (int p = 0; p < due.length; p++) {
            check.same(where + ", againRounds(" + side + ", " + p + ")", g.againRounds(side, p), due[p]);
        }
    }

    private void roundsOfTheDescription() {
        edges.test("Games", "0 in the GOAL, and where the other SIDE is STUCK; otherwise, at a PLACE of its own", () -> {
            // In the goal 0 is stuck, 1 goes on, 3 is of side 1; at 2 side 1 is stuck.
            Roadgame g = Maps.of(4, 12, 11, "1>2 3>3");
            roundsIs("of side 0", g, 0, 0, 0, 0, 0);
            roundsIs("of side 1", g, 1, 0, 0, -1, 0);
        });
        edges.test("Games", "1 more than the least ROUNDS of the PLACES to which WAYS go that are WON", () -> {
            // From 0 to 1 (two rounds), 2 (one) and 4, which is not won.
            roundsIs("of its own", Maps.of(5, 0, 8, "0>1 0>2 0>4 1>2 2>3 3>3 4>4"), 0, 2, 2, 1, 0, -1);
            roundsIs("to itself, too", Maps.of(2, 0, 2, "0>0 0>1"), 0, 1, 0);
        });
        edges.test("Games", "at one of the other SIDE 1 more than the greatest ROUNDS of the PLACES to which WAYS go", () -> {
            roundsIs("of the other one", Maps.of(4, 1, 8, "0>1 0>2 1>2 2>3"), 0, 3, 2, 1, 0);
            roundsIs("one way to the goal alone", Maps.of(2, 1, 2, "0>1"), 0, 1, 0);
            roundsIs("to itself, too", Maps.of(2, 1, 2, "0>0 0>1"), 0, -1, 0);
        });
    }

    private void againRoundsOfTheDescription() {
        edges.test("Games", "AGAIN ROUNDS of a PLACE that is WON by a SIDE in AGAIN: 0 in the GOAL, and where the other SIDE is STUCK", () -> {
            // From 0 it is three rounds until 0 comes again; at 3 side 1 is stuck.
            againRoundsIs("a ring", Maps.of(4, 8, 1, "0>1 1>2 2>0"), 0, 0, 2, 1, 0);
            againRoundsIs("stuck itself in the goal", Maps.of(2, 0, 1, "1>0"), 0, -1, -1);
        });
        edges.test("Games", "otherwise reckoned likewise, of those that are WON in AGAIN", () -> {
            // The goal is 1 and 3; from 1 it goes to 4 and stays there.
            Roadgame g = Maps.of(5, 0, 10, "0>1 0>2 2>3 3>0 1>4 4>4");
            againRoundsIs("past what is not won", g, 0, 2, -1, 1, 0, -1);
            roundsIs("by what is not won in AGAIN", g, 0, 1, 0, 1, 0, -1);
            againRoundsIs("of the other one", Maps.of(4, 1, 8, "0>1 0>2 1>2 2>3 3>0"), 0, 3, 2, 1, 0);
        });
    }

    private void coming() {
        edges.test(19, "Returns all PLACES that it has WON in COMING, as a SET", () -> {
            for (int side = 0; side <= 1; side++) {
                check.same("no goal", Maps.ring(12, 0).coming(side), 0);
                check.same("the goal is all", Maps.ring(12, 4095).coming(side), 4095);
                check.same("twelve, eleven rounds off", Maps.ring(12, 2048).coming(side), 4095);
                check.same("two", Maps.ring(2, 1).coming(side), 3);
            }
        });
        edges.illegal(19, "side is not 0 or 1", Edges.number(0, 1, Roadgame::coming));
    }

    private void keeping() {
        edges.test(20, "Returns all PLACES that it has WON in KEEPING, as a SET", () -> {
            for (int side = 0; side <= 1; side++) {
                check.same("no goal", Maps.ring(12, 0).keeping(side), 4095);
                check.same("the goal is all", Maps.ring(12, 4095).keeping(side), 0);
                check.same("twelve, eleven rounds off", Maps.ring(12, 2048).keeping(side), 0);
                check.same("two", Maps.ring(2, 0).keeping(side), 3);
            }
        });
        edges.illegal(20, "side is not 0 or 1", Edges.number(0, 1, Roadgame::keeping));
    }

    private void again() {
        edges.test(21, "Returns all PLACES that it has WON in AGAIN, as a SET", () -> {
            for (int side = 0; side <= 1; side++) {
                check.same("no goal", Maps.ring(12, 0).again(side), 0);
                check.same("the goal is all", Maps.ring(12, 4095).again(side), 4095);
                check.same("one of twelve", Maps.ring(12, 2048).again(side), 4095);
            }
            check.same("the goal is all, stuck in the end", Maps.line(4095, 2).again(0), 0);
            check.same("no goal, the other one stuck in the end", Maps.line(0, 2).again(1), 4095);
        });
        edges.illegal(21, "side is not 0 or 1", Edges.number(0, 1, Roadgame::again));
    }

    private void ranked() {
        edges.test(22, "Returns all PLACES that it has WON in RANKED, as a SET", () -> {
            int[] winners = {0, 1, 0};
            for (int rank = 0; rank <= 2; rank++) {
                Roadgame g = Maps.ring(12, 0);
                for (int p = 0; p < 12; p++) {
                    g.rank(p, rank);
                }
                check.same("all of rank " + rank, g.ranked(winners[rank]), 4095);
                check.same("all of rank " + rank + ", the other one", g.ranked(1 - winners[rank]), 0);
                Roadgame line = Maps.line(0, rank);
                check.same("stuck in the end, rank " + rank, line.ranked(1), 4095);
                line.change();
                check.same("the other one stuck in the end, rank " + rank, line.ranked(0), 4095);
            }
            Roadgame g = Maps.ring(12, 0);
            g.rank(11, 1);
            check.same("one of rank 1", g.ranked(1), 4095);
            g.rank(0, 0);
            check.same("one of rank 1, one of rank 0", g.ranked(0), 4095);
        });
        edges.illegal(22, "side is not 0 or 1", Edges.number(0, 1, Roadgame::ranked));
    }

    private void winner() {
        edges.test(23, "Returns the SIDE that has WON it there (in 0 and 1 the other one by KEEPING)", () -> {
            // Without end at 0 and 11, of either side, and no goal: nobody wins in COMING or AGAIN; all others are stuck.
            Roadgame g = Maps.of(12, 2048, 0, "0>0 11>11");
            g.rank(11, 1);
            int[] ends = {1, 0, 1, 0};
            for (int game = 0; game <= 3; game++) {
                check.same("winner(" + game + ", 0)", g.winner(game, 0), ends[game]);
                check.same("winner(" + game + ", 11)", g.winner(game, 11), ends[game]);
                check.same("winner(" + game + ", 5), side 0 stuck", g.winner(game, 5), 1);
            }
            check.same("winner(4, 0)", g.winner(4, 0), 0);
            check.same("winner(4, 11)", g.winner(4, 11), 1);
            check.same("winner(4, 5)", g.winner(4, 5), 1);
            g.goal(2049);
            int[] others = {0, 1, 0, 1};
            for (int game = 0; game <= 3; game++) {
                check.same("winner(" + game + ", 0), in the goal", g.winner(game, 0), others[game]);
                check.same("winner(" + game + ", 11), in the goal", g.winner(game, 11), others[game]);
            }
            Roadgame once = Maps.of(2, 0, 1, "0>1 1>1");
            int[] first = {0, 1, 1, 0, 0};
            // From 0 of side 1 to the goal 1 or to 2: side 1 alone brings about what it will.
            Roadgame fork = Maps.of(3, 1, 2, "0>1 0>2 1>1 2>2");
            fork.rank(2, 1);
            int[] forked = {1, 1, 1, 1, 1};
            for (int game = 0; game <= 4; game++) {
                check.same("winner(" + game + ", 0), the goal once", once.winner(game, 0), first[game]);
                check.same("winner(" + game + ", 0), a fork of side 1", fork.winner(game, 0), forked[game]);
            }
        });
        edges.outside(23, "place is not 0 to N - 1", Edges.place((g, v) -> g.winner(0, v)));
        edges.illegal(23, "game is not 0 to 4", Edges.number(0, 4, (g, v) -> g.winner(v, 0)));
    }

    private void rounds() {
        edges.test(24, "Returns its ROUNDS; -1 if the SIDE has not WON it in COMING", () -> {
            for (int side = 0; side <= 1; side++) {
                roundsIs("twelve to the last", Maps.ring(12, 2048), side, 11, 10, 9, 8, 7, 6, 5, 4, 3, 2, 1, 0);
                roundsIs("no goal", Maps.ring(2, 0), side, -1, -1);
                roundsIs("the goal is all", Maps.ring(2, 3), side, 0, 0);
            }
            roundsIs("stuck in the end", Maps.line(0, 2), 0, -1, -1, -1, -1, -1, -1, -1, -1, -1, -1, -1, -1);
            roundsIs("the other one stuck in the end", Maps.line(0, 2), 1, 11, 10, 9, 8, 7, 6, 5, 4, 3, 2, 1, 0);
        });
        edges.outside(24, "place is not 0 to N - 1", Edges.place((g, v) -> g.rounds(0, v)));
        edges.illegal(24, "side is not 0 or 1", Edges.number(0, 1, (g, v) -> g.rounds(v, 0)));
    }

    private void againRounds() {
        edges.test(25, "Returns its AGAIN ROUNDS; -1 if the SIDE has not WON it in AGAIN", () -> {
            for (int side = 0; side <= 1; side++) {
                againRoundsIs("twelve round", Maps.ring(12, 1), side, 0, 11, 10, 9, 8, 7, 6, 5, 4, 3, 2, 1);
                againRoundsIs("no goal", Maps.ring(2, 0), side, -1, -1);
                againRoundsIs("the goal is all", Maps.ring(2, 3), side, 0, 0);
                againRoundsIs("the goal once", Maps.of(2, 0, 1, "0>1 1>1"), side, -1, -1);
            }
            againRoundsIs("the other one stuck", Maps.line(0, 2), 1, 11, 10, 9, 8, 7, 6, 5, 4, 3, 2, 1, 0);
        });
        edges.outside(25, "place is not 0 to N - 1", Edges.place((g, v) -> g.againRounds(0, v)));
        edges.illegal(25, "side is not 0 or 1", Edges.number(0, 1, (g, v) -> g.againRounds(v, 0)));
    }

    private void falls() {
        edges.test(26, "one begins with all PLACES", () -> {
            check.same("nothing falls, all in the goal", Maps.ring(12, 4095).falls(0), 0);
            check.same("nothing falls, one in the goal", Maps.ring(12, 1).falls(1), 0);
            check.same("nothing falls of two", Maps.of(2, 0, 3, "0>0 1>1").falls(0), 0);
        });
        edges.test(26, "all these are left out at once, which is once", () -> {
            check.same("all at once", Maps.ring(12, 0).falls(0), 1);
            check.same("all at once, stuck", new Roadgame().falls(0), 1);
            check.same("two at once", Maps.of(4, 0, 1, "0>0 1>0 2>2 3>2").falls(0), 1);
        });
        edges.test(26, "as long as from some of them that SIDE can not bring about that the other one is STUCK", () -> {
            check.same("the other one stuck at once", new Roadgame().falls(1), 0);
            check.same("the other one stuck in the end", Maps.line(0, 2).falls(1), 0);
            check.same("one each time, twelve times", Maps.line(4095, 2).falls(0), 12);
        });
        edges.illegal(26, "side is not 0 or 1", Edges.number(0, 1, Roadgame::falls));
    }

    private void fallsByTheGoal() {
        edges.test(26, "or that a PLACE of the GOAL comes (also as the first one) from which it can see to it that one of them comes next", () -> {
            check.same("the goal as the first one", Maps.of(2, 0, 3, "0>0 1>1").falls(1), 0);
            // First 2 falls (no goal comes from it), then 1 (next comes 2), then 0.
            check.same("the goal, then none", Maps.of(3, 0, 3, "0>1 1>2 2>2").falls(0), 3);
            // First 1 falls, stuck in the goal; 0 brings it about by itself.
            check.same("stuck in the goal", Maps.of(2, 0, 3, "0>0 0>1").falls(0), 1);
            check.same("stuck in the goal, of the other one", Maps.of(2, 2, 2, "0>1").falls(0), 0);
        });
    }
}
