/** The boundary cases of choices: those of "Games", and promises 27 to 31. */
final class ChoiceEdges {
    private final Edges edges;
    private final Check check;

    ChoiceEdges(Edges edges) {
        this.edges = edges;
        check = edges.check;
    }

    void run() {
        toldInComing();
        toldElsewhere();
        choice();
        isSure();
        play();
        choices();
        tried();
        triedPastTheMost();
    }

    private void toldInComing() {
        edges.test("Games", "The told CHOICE of a SIDE at a PLACE of its own that it has WON", () -> {
            Roadgame g = Maps.four();
            check.same("coming(0)", g.coming(0), 15);
            check.same("choice(0, 0, 0), its own", g.choice(0, 0, 0), 2);
            check.same("choice(0, 0, 1), won, but of the other one", g.choice(0, 0, 1), -1);
            check.same("choice(0, 1, 1), its own", g.choice(0, 1, 1), 3);
            check.same("choice(0, 1, 0), neither", g.choice(0, 1, 0), -1);
            check.same("choice(2, 0, 1), won, but of the other one", g.choice(2, 0, 1), -1);
            check.same("choice(2, 1, 1), its own, but not won", g.choice(2, 1, 1), -1);
            check.same("choice(1, 1, 3), its own, but not won", g.choice(1, 1, 3), -1);
            Roadgame kept = Maps.of(2, 2, 0, "0>0 1>1");
            check.same("keeping(0)", kept.keeping(0), 3);
            check.same("choice(1, 0, 1), won, but of the other one", kept.choice(1, 0, 1), -1);
        });
        edges.test("Games", "to the PLACE with the least number of those to which a WAY goes and that have ROUNDS less by 1", () -> {
            // 5 has two rounds by 3 and by 4; 0 has two as well, so it is not taken, though it has the least number.
            Roadgame g = Maps.of(6, 0, 2, "5>0 5>3 5>4 0>3 3>1 4>1 2>4");
            check.same("choice(0, 0, 5), the lesser of two", g.choice(0, 0, 5), 3);
            check.same("choice(0, 0, 0)", g.choice(0, 0, 0), 3);
            check.same("choice(0, 0, 2), the least has no way to it", g.choice(0, 0, 2), 4);
            check.same("choice(0, 0, 3), into the goal", g.choice(0, 0, 3), 1);
            Roadgame stuck = Maps.stuck();
            check.same("choice(0, 0, 2), to where the other one is stuck", stuck.choice(0, 0, 2), 1);
            Roadgame last = Maps.of(12, 0, 2048, "0>0 0>11");
            check.same("choice(0, 0, 0), the last one", last.choice(0, 0, 0), 11);
        });
        edges.test("Games", "(none in the GOAL)", () -> {
            Roadgame g = Maps.of(2, 0, 3, "0>0 0>1 1>0");
            check.same("choice(0, 0, 0)", g.choice(0, 0, 0), -1);
            check.same("choice(0, 0, 1)", g.choice(0, 0, 1), -1);
            check.same("choice(2, 0, 0), but in AGAIN", g.choice(2, 0, 0), 0);
        });
    }

    private void toldElsewhere() {
        edges.test("Games", "In KEEPING: to the least one that it has WON there", () -> {
            // From 3 to the goal 0, and to 1 and 2, where it stays.
            Roadgame g = Maps.of(4, 0, 1, "3>0 3>1 3>2 1>1 2>2");
            check.same("choice(1, 0, 3), the lesser of two", g.choice(1, 0, 3), 1);
            g.lose(3, 1);
            check.same("choice(1, 0, 3), the one left", g.choice(1, 0, 3), 2);
            g.way(3, 3);
            g.lose(3, 2);
            check.same("choice(1, 0, 3), to itself", g.choice(1, 0, 3), 3);
            g.lose(3, 3);
            check.same("choice(1, 0, 3), to the goal alone", g.choice(1, 0, 3), -1);
            check.same("choice(1, 0, 0), stuck in the goal", g.choice(1, 0, 0), -1);
        });
        edges.test("Games", "In AGAIN: in the GOAL to the least one that it has WON there", () -> {
            // From the goal 3 to 0, which is not won, to 1 (two rounds) and to 2 (one).
            Roadgame g = Maps.of(4, 0, 8, "3>0 3>1 3>2 0>0 1>2 2>3");
            check.same("choice(2, 0, 3), not the nearest", g.choice(2, 0, 3), 1);
            g.way(3, 3);
            g.lose(3, 1);
            g.lose(3, 2);
            check.same("choice(2, 0, 3), to itself", g.choice(2, 0, 3), 3);
        });
        edges.test("Games", "otherwise to the least one of those that have AGAIN ROUNDS less by 1", () -> {
            // 0 is in the goal, but stuck; 5 has two AGAIN ROUNDS by 2 and by 3, and 1 has two as well.
            Roadgame g = Maps.of(6, 0, 17, "5>0 5>1 5>2 5>3 1>2 2>4 3>4 4>5");
            check.same("againRounds(0, 5)", g.againRounds(0, 5), 2);
            check.same("choice(2, 0, 5), the lesser of two", g.choice(2, 0, 5), 2);
            check.same("choice(0, 0, 5), in COMING", g.choice(0, 0, 5), 0);
            check.same("choice(2, 0, 4), in the goal", g.choice(2, 0, 4), 5);
        });
    }

    private void choice() {
        edges.test(27, "-1 if there is none", () -> {
            for (int game = 0; game <= 2; game++) {
                check.same("stuck", new Roadgame().choice(game, 0, 5), -1);
                check.same("of the other one, which is stuck", new Roadgame().choice(game, 1, 5), -1);
                check.same("stuck in the goal", Maps.of(2, 0, 3, "").choice(game, 0, 1), -1);
            }
            check.same("choice(0, 0, 0), never the goal", Maps.ring(12, 0).choice(0, 0, 0), -1);
            check.same("choice(2, 0, 0), never the goal", Maps.ring(12, 0).choice(2, 0, 0), -1);
            check.same("choice(1, 0, 0), always the goal", Maps.ring(12, 4095).choice(1, 0, 0), -1);
        });
        edges.test(27, "Returns the PLACE to which its told CHOICE goes", () -> {
            check.same("choice(0, 0, 11), to 0", Maps.ring(12, 1).choice(0, 0, 11), 0);
            check.same("choice(0, 0, 10), to 11", Maps.ring(12, 1).choice(0, 0, 10), 11);
            check.same("choice(0, 0, 1), eleven rounds off", Maps.ring(12, 1).choice(0, 0, 1), 2);
            check.same("choice(1, 0, 11), to 0", Maps.ring(12, 0).choice(1, 0, 11), 0);
            check.same("choice(2, 0, 1), eleven rounds off", Maps.ring(12, 1).choice(2, 0, 1), 2);
            check.same("choice(2, 0, 0), in the goal", Maps.ring(12, 1).choice(2, 0, 0), 1);
        });
        edges.outside(27, "place is not 0 to N - 1", Edges.place((g, v) -> g.choice(0, 0, v)));
        edges.illegal(27, "game is not 0 to 2, or side is not 0 or 1",
            Edges.number(0, 2, (g, v) -> g.choice(v, 0, 0)), Edges.number(0, 1, (g, v) -> g.choice(0, v, 0)));
    }

    private void isSure() {
        edges.test(28, "true, always", () -> {
            Roadgame[] games = {
                new Roadgame(), Maps.of(2, 0, 3, ""), Maps.of(2, 1, 0, "0>0"), Maps.ring(12, 0), Maps.ring(12, 4095),
                Maps.line(2048, 2), Maps.line(4095, 0), Maps.thirty(), Maps.four(), Maps.stuck(), Maps.lure(),
                Maps.busy(2), Maps.busy(12), Maps.of(6, 0, 17, "5>0 5>1 5>2 5>3 1>2 2>4 3>4 4>5"),
            };
            for (int k = 0; k < games.length; k++) {
                for (int game = 0; game <= 2; game++) {
                    check.holds("map " + k + ", isSure(" + game + ", 0)", games[k].isSure(game, 0));
                    check.holds("map " + k + ", isSure(" + game + ", 1)", games[k].isSure(game, 1));
                }
            }
        });
        edges.illegal(28, "game is not 0 to 2, or side is not 0 or 1",
            Edges.number(0, 2, (g, v) -> g.isSure(v, 0)), Edges.number(0, 1, (g, v) -> g.isSure(0, v)));
    }

    private void play() {
        edges.test(29, "up to the first one that comes a second time, or that has no WAY from it (either is told, too)", () -> {
            check.same("no way from the first one", new Roadgame().play(0, 5), "5");
            check.same("no way from the second one", Maps.of(2, 0, 0, "1>0").play(0, 1), "1-0");
            check.same("to itself", Maps.of(2, 0, 0, "1>1").play(1, 1), "1-1");
            check.same("the second one to itself", Maps.of(2, 0, 0, "0>1 1>1").play(1, 0), "0-1-1");
            check.same("twelve round", Maps.ring(12, 0).play(0, 11), "11-0-1-2-3-4-5-6-7-8-9-10-11");
            check.same("twelve to the end", Maps.line(0, 2).play(0, 0), "0-1-2-3-4-5-6-7-8-9-10-11");
            Roadgame back = Maps.line(0, 2);
            back.way(11, 11);
            check.same("twelve, the last one to itself", back.play(0, 0), "0-1-2-3-4-5-6-7-8-9-10-11-11");
            check.same("the goal does not end it", Maps.ring(2, 3).play(0, 0), "0-1-0");
        });
        edges.test(29, "where there is none, to the PLACE with the least number to which a WAY goes", () -> {
            // In the goal 2 there is none in COMING; 0 and 1 have none as they are not won.
            check.same("in the goal", Maps.of(4, 0, 4, "2>3 2>1 1>1 3>3").play(0, 2), "2-1-1");
            check.same("not won", Maps.of(4, 0, 0, "0>3 0>2 2>2 3>3").play(0, 0), "0-2-2");
            check.same("not won in KEEPING", Maps.of(4, 1, 14, "0>3 0>2").play(0, 0), "0-2");
        });
        edges.test(29, "by their told CHOICES in COMING for a SIDE (the other one by those in KEEPING)", () -> {
            // Both go from their own place to 2, which is the goal, or to 3, where it stays.
            Roadgame g = Maps.of(5, 18, 4, "0>2 0>3 1>2 1>3 3>3 4>0 4>2");
            check.same("play(0, 0)", g.play(0, 0), "0-2");
            check.same("play(1, 0)", g.play(1, 0), "0-3-3");
            check.same("play(0, 1)", g.play(0, 1), "1-3-3");
            check.same("play(1, 1)", g.play(1, 1), "1-2");
            check.same("play(0, 4), nothing kept", g.play(0, 4), "4-0-2");
            check.same("play(1, 4)", g.play(1, 4), "4-2");
            check.same("play(0, 0), to the goal that comes once", Maps.lure().play(0, 0), "0-1-3-3");
        });
        edges.outside(29, "place is not 0 to N - 1", Edges.place((g, v) -> g.play(0, v)));
        edges.illegal(29, "side is not 0 or 1", Edges.number(0, 1, (g, v) -> g.play(v, 0)));
    }

    private void choices() {
        edges.test("Games", "for each PLACE of its own that has WAYS one of these", () -> {
            Roadgame g = Maps.of(3, 2, 0, "0>0 0>1 0>2 1>0 1>1");
            check.same("choices(0)", g.choices(0), 3);
            check.same("choices(1)", g.choices(1), 2);
        });
        edges.test(30, "the product of how many WAYS its PLACES have, of those that have WAYS", () -> {
            check.same("no ways", new Roadgame().choices(0), 1);
            check.same("no places", new Roadgame().choices(1), 1);
            check.same("one way from each", Maps.ring(12, 0).choices(0), 1);
            Roadgame one = Maps.of(12, 0, 0, "");
            for (int p = 0; p < 12; p++) {
                one.way(11, p);
            }
            check.same("twelve from one", one.choices(0), 12);
            Roadgame most = Maps.of(10, 0, 0, "");
            most.circle(0);
            most.circle(1);
            most.circle(9);
            check.same("thirty, three from each", most.choices(0), 59049);
            check.same("thirty, three from each, of the other one", most.choices(1), 1);
            most.give(9, 1);
            check.same("thirty, nine places", most.choices(0), 19683);
            check.same("thirty, one place", most.choices(1), 3);
        });
        edges.illegal(30, "side is not 0 or 1", Edges.number(0, 1, Roadgame::choices));
    }

    /** Two ways from 1 to 6 each, so 64 choices; by one of these alone the goal comes from the far end. */
    private static Roadgame sixtyFour(boolean rising) {
        StringBuilder ways = new StringBuilder(rising ? "0>0" : "7>7");
        for (int p = 1; p <= 6; p++) {
            ways.append(" ").append(p).append(">").append(p + 1 - (rising ? 0 : 2));
            ways.append(" ").append(p).append(">").append(rising ? 0 : 7);
        }
        return Maps.of(8, 0, rising ? 128 : 1, ways.toString());
    }

    private void tried() {
        edges.test(31, "Returns all PLACES, as a SET, from which one of its CHOICES (each of them tried) wins each PLAY", () -> {
            check.same("choices(0)", sixtyFour(true).choices(0), 64);
            check.same("tried(0, 0), by the last one of 64", sixtyFour(true).tried(0, 0), 254);
            check.same("choices(0), falling", sixtyFour(false).choices(0), 64);
            check.same("tried(0, 0), by the first one of 64", sixtyFour(false).tried(0, 0), 127);
            int[] due = {0, 0, 0, 0};
            int[] other = {63, 63, 63, 63};
            for (int game = 0; game <= 3; game++) {
                check.same("tried(" + game + ", 0), one choice", new Roadgame().tried(game, 0), due[game]);
                check.same("tried(" + game + ", 1), one choice", new Roadgame().tried(game, 1), other[game]);
            }
            Roadgame fork = Maps.of(3, 0, 2, "0>1 0>2 1>1 2>2");
            fork.rank(2, 1);
            int[] forked = {3, 5, 3, 3};
            for (int game = 0; game <= 3; game++) {
                check.same("tried(" + game + ", 0), a fork", fork.tried(game, 0), forked[game]);
            }
            Roadgame ring = Maps.ring(3, 0);
            ring.rank(0, 1);
            ring.rank(1, 0);
            check.same("tried(3, 0), of each rank", ring.tried(3, 0), 7);
        });
    }

    private void triedPastTheMost() {
        edges.test(31, "-9 if it has more than 64 CHOICES", () -> {
            Roadgame edge = Maps.of(12, 0, 1, "");
            for (int p = 0; p < 8; p++) {
                edge.way(0, p);
                edge.way(1, p);
            }
            check.same("choices(0), the most", edge.choices(0), 64);
            check.same("tried(0, 0), the most", edge.tried(0, 0), 3);
            for (int p = 8; p < 11; p++) {
                edge.way(0, p);
            }
            edge.lose(1, 7);
            edge.lose(1, 6);
            check.same("choices(0), past the most", edge.choices(0), 66);
            for (int game = 0; game <= 3; game++) {
                check.same("tried(" + game + ", 0), past the most", edge.tried(game, 0), -9);
            }
            check.same("tried(0, 1), the other one has a single one", edge.tried(0, 1), 4093);
            edge.change();
            check.same("tried(0, 1), past the most", edge.tried(0, 1), -9);
            // The other one is stuck but at 0 and 1, where it stays, and all are of rank 2.
            check.same("tried(3, 0), the other one has too many", edge.tried(3, 0), 4095);
            check.same("house(1)", edge.house(1), 0);
        });
        edges.illegal(31, "game is not 0 to 3, or side is not 0 or 1",
            Edges.number(0, 3, (g, v) -> g.tried(v, 0)), Edges.number(0, 1, (g, v) -> g.tried(0, v)));
    }
}
