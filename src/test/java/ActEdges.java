import java.util.ArrayList;
import java.util.List;
import java.util.function.Consumer;
import java.util.function.IntSupplier;

/** The boundary cases of the stone and of all acts: "Stone", "Acts", and promises 11 to 13. */
final class ActEdges {
    /** How many calls an object is used for. */
    private static final int CALLS = 512;

    private final Edges edges;
    private final Check check;

    ActEdges(Edges edges) {
        this.edges = edges;
        check = edges.check;
    }

    void run() {
        counted();
        refused();
        asked();
        thrown();
        severalExceptions();
        stone();
        stand();
        go();
        follow();
    }

    private void counted() {
        edges.test("Acts", "ACTS are the methods from places() to follow()", () -> {
            Roadgame g = Maps.of(4, 10, 8, "0>1 0>2 1>0 1>3 2>3 3>2 2>0");
            check.act(g, "give", () -> g.give(0, 0), 0);
            check.act(g, "rank", () -> g.rank(0, 0), 2);
            check.act(g, "goal", () -> g.goal(8), 8);
            check.act(g, "way", () -> g.way(3, 3), 1);
            check.act(g, "lose", () -> g.lose(3, 3), 1);
            check.act(g, "stand", () -> g.stand(1), 0);
            check.act(g, "go", () -> g.go(0), 1);
            check.act(g, "follow", () -> g.follow(0), 2);
            check.act(g, "circle", () -> g.circle(0), 4);
            check.act(g, "strew", () -> g.strew(0), 7);
            check.act(g, "change", g::change, 0);
            check.act(g, "places", () -> g.places(4), 4);
        });
        edges.test("Acts", "Each other call of an ACT is counted as done (house() by 0), also if all stays as it was", () -> {
            Roadgame g = new Roadgame();
            stays(g, "places(6)", () -> g.places(6), 6);
            g.circle(1);
            stays(g, "give(0, 0)", () -> g.give(0, 0), 0);
            stays(g, "rank(0, 2)", () -> g.rank(0, 2), 2);
            stays(g, "goal(0)", () -> g.goal(0), 0);
            stays(g, "way(0, 1)", () -> g.way(0, 1), 0);
            stays(g, "lose(0, 0)", () -> g.lose(0, 0), 0);
            stays(g, "circle(1)", () -> g.circle(1), 0);
            stays(g, "stand(0)", () -> g.stand(0), 0);
            g.strew(77);
            stays(g, "strew(77)", () -> g.strew(77), g.told(1));
        });
    }

    private void stays(Roadgame g, String call, IntSupplier act, int due) {
        String before = Check.stateOf(g);
        check.act(g, call, act, due);
        check.same(call + ", the state", Check.stateOf(g), before);
    }

    private void refused() {
        edges.test("Acts", "nothing is changed then, but that it is counted (house() by 1)", () -> {
            Roadgame full = Maps.thirty();
            full.stand(2);
            full.go(3);
            check.cannot(full, "way(0, 5)", () -> full.way(0, 5));
            check.cannot(full, "circle(5)", () -> full.circle(5));
            check.cannot(full, "go(2)", () -> full.go(2));
            for (int game : new int[] {0, 2}) {
                check.cannot(full, "follow(" + game + ")", () -> full.follow(game));
            }
            check.same("house(1), five told -9", full.house(1), 5);
            full.goal(63);
            check.cannot(full, "follow(1)", () -> full.follow(1));
        });
    }

    private void asked() {
        edges.test("Acts", "All other methods but knock() change nothing", () -> {
            List<Consumer<Roadgame>> asks = new ArrayList<>(List.of(
                g -> g.told(0), g -> g.ofPlace(0, 0), g -> g.isWay(0, 0), g -> g.ways(0), g -> g.ahead(0, 0),
                g -> g.winner(4, 0), g -> g.house(0)));
            for (int s = 0; s <= 1; s++) {
                int side = s;
                asks.addAll(List.of(
                    g -> g.coming(side), g -> g.keeping(side), g -> g.again(side), g -> g.ranked(side),
                    g -> g.rounds(side, 0), g -> g.againRounds(side, 0), g -> g.falls(side),
                    g -> g.choice(0, side, 0), g -> g.isSure(2, side)));
                asks.addAll(List.of(
                    g -> g.play(side, 0), g -> g.choices(side), g -> g.tried(3, side), g -> g.withGoal(1, side, 1),
                    g -> g.withWay(3, side, 0, 0)));
            }
            asks.add(Roadgame::isSound);
            asks.add(Roadgame::digest);
            for (int many : new int[] {2, 6, 12}) {
                Roadgame g = Maps.busy(many);
                String before = Check.wholeOf(g);
                for (int k = 0; k < asks.size(); k++) {
                    asks.get(k).accept(g);
                    check.same("ask " + k + " of " + many + " places", Check.wholeOf(g), before);
                }
                g.knock();
                check.same("knock() changes house(2)", g.house(2), 2);
            }
        });
        edges.test("Acts", "a -9 of theirs is not counted", () -> {
            Roadgame g = Maps.thirty();
            String before = Check.wholeOf(g);
            for (int game = 0; game <= 3; game++) {
                check.same("tried(" + game + ", 0)", g.tried(game, 0), -9);
            }
            check.same("house(1)", g.house(1), 0);
            check.same("all", Check.wholeOf(g), before);
        });
        edges.test("What it is", "An object is used for at most 512 calls after it has been made", () -> {
            Roadgame g = new Roadgame();
            for (int k = 1; k < CALLS; k++) {
                g.give(k % 6, k % 2);
            }
            check.same("house(0), call " + CALLS, g.house(0), CALLS - 1);
            Roadgame refused = new Roadgame();
            for (int k = 1; k < CALLS; k++) {
                refused.go(k % 6);
            }
            check.same("house(1), call " + CALLS, refused.house(1), CALLS - 1);
            Roadgame going = new Roadgame();
            going.way(0, 0);
            for (int k = 1; k < CALLS; k++) {
                check.same("go(0)", going.go(0), k);
            }
        });
    }

    private static List<Consumer<Roadgame>> wrongActs() {
        return List.of(
            g -> g.places(13), g -> g.give(6, 0), g -> g.rank(0, 3), g -> g.goal(64), g -> g.way(0, 6),
            g -> g.lose(-1, 0), g -> g.circle(12), g -> g.strew(10000), g -> g.stand(6), g -> g.go(6));
    }

    private void thrown() {
        edges.test("Acts", "one that threw is not counted", () -> {
            Roadgame g = Maps.busy(6);
            int done = g.house(0);
            int refused = g.house(1);
            List<Consumer<Roadgame>> wrong = new ArrayList<>(wrongActs());
            wrong.add(h -> h.follow(3));
            int met = 0;
            for (Consumer<Roadgame> act : wrong) {
                try {
                    act.accept(g);
                } catch (IllegalArgumentException | IndexOutOfBoundsException e) {
                    met++;
                }
            }
            check.same("acts that threw", met, 11);
            check.same("house(0)", g.house(0), done);
            check.same("house(1)", g.house(1), refused);
        });
        edges.test("Acts", "A method that throws an exception changes nothing", () -> {
            Roadgame g = Maps.busy(6);
            check.outside(g, "give(6, 0)", () -> g.give(6, 0));
            check.illegal(g, "give(5, 2)", () -> g.give(5, 2));
            check.outside(g, "rank(6, 0)", () -> g.rank(6, 0));
            check.illegal(g, "rank(5, 3)", () -> g.rank(5, 3));
            check.illegal(g, "goal(64)", () -> g.goal(64));
            check.outside(g, "way(0, 6)", () -> g.way(0, 6));
            check.outside(g, "lose(5, 6)", () -> g.lose(5, 6));
            check.illegal(g, "places(13)", () -> g.places(13));
            check.illegal(g, "circle(12)", () -> g.circle(12));
            check.illegal(g, "strew(10000)", () -> g.strew(10000));
            check.outside(g, "stand(6)", () -> g.stand(6));
            check.outside(g, "go(6)", () -> g.go(6));
            check.illegal(g, "follow(3)", () -> g.follow(3));
            check.illegal(g, "tried(4, 0)", () -> g.tried(4, 0));
            check.illegal(g, "withGoal(2, 0, 0)", () -> g.withGoal(2, 0, 0));
            check.illegal(g, "withWay(4, 0, 0, 0)", () -> g.withWay(4, 0, 0, 0));
            check.illegal(g, "house(3)", () -> g.house(3));
        });
    }

    private void severalExceptions() {
        edges.test("Acts", "If several exceptions apply, the one that is named first is thrown", () -> {
            Roadgame g = Maps.busy(6);
            for (int place : new int[] {-1, 6}) {
                for (int wrong : new int[] {-1, 99}) {
                    check.outside(g, "give", () -> g.give(place, wrong));
                    check.outside(g, "rank", () -> g.rank(place, wrong));
                    check.outside(g, "ofPlace", () -> g.ofPlace(place, wrong));
                    check.outside(g, "winner", () -> g.winner(wrong, place));
                    check.outside(g, "rounds", () -> g.rounds(wrong, place));
                    check.outside(g, "againRounds", () -> g.againRounds(wrong, place));
                    check.outside(g, "choice by game", () -> g.choice(wrong, 0, place));
                    check.outside(g, "choice by side", () -> g.choice(0, wrong, place));
                    check.outside(g, "play", () -> g.play(wrong, place));
                    check.outside(g, "withGoal by game", () -> g.withGoal(wrong, 0, place));
                    check.outside(g, "withGoal by side", () -> g.withGoal(0, wrong, place));
                    check.outside(g, "withWay by game, from", () -> g.withWay(wrong, 0, place, 0));
                    check.outside(g, "withWay by game, to", () -> g.withWay(wrong, 0, 0, place));
                    check.outside(g, "withWay by side, from", () -> g.withWay(0, wrong, place, 0));
                    check.outside(g, "withWay by side, to", () -> g.withWay(0, wrong, 0, place));
                }
            }
        });
        edges.test("Acts", "exceptions go ahead of -9", () -> {
            Roadgame g = Maps.thirty();
            check.same("tried(0, 0)", g.tried(0, 0), -9);
            check.outside(g, "way(0, 6) at thirty", () -> g.way(0, 6));
            check.outside(g, "way(6, 0) at thirty", () -> g.way(6, 0));
            check.illegal(g, "circle(12) at thirty", () -> g.circle(12));
            check.outside(g, "go(6), no such way", () -> g.go(6));
            check.illegal(g, "follow(3), no choice", () -> g.follow(3));
            Roadgame bare = new Roadgame();
            check.outside(bare, "go(6), no way at all", () -> bare.go(6));
            check.outside(bare, "go(-1), no way at all", () -> bare.go(-1));
            check.illegal(bare, "follow(-1), no way at all", () -> bare.follow(-1));
            check.illegal(g, "tried(4, 0), too many choices", () -> g.tried(4, 0));
            check.illegal(g, "tried(-1, 0), too many choices", () -> g.tried(-1, 0));
            g.change();
            check.same("tried(0, 1)", g.tried(0, 1), -9);
            check.illegal(g, "tried(0, 2), too many choices of 1", () -> g.tried(0, 2));
        });
    }

    private void stone() {
        edges.test("Stone", "There is one STONE, at a PLACE, at first at 0", () -> {
            Roadgame g = new Roadgame();
            check.same("told(4)", g.told(4), 0);
            check.same("stand(5)", g.stand(5), 0);
            g.places(2);
            check.same("told(4), as at first again", g.told(4), 0);
        });
        edges.test("Stone", "a count of the ROUNDS that it GOES (at first 0)", () -> {
            Roadgame g = new Roadgame();
            check.same("told(5)", g.told(5), 0);
            g.way(0, 0);
            check.same("go(0)", g.go(0), 1);
            check.same("told(5) then", g.told(5), 1);
        });
    }

    private void stand() {
        edges.test(11, "the count of ROUNDS is 0 then", () -> {
            Roadgame g = Maps.ring(12, 0);
            g.go(1);
            g.go(2);
            check.same("told(5) before", g.told(5), 2);
            g.stand(2);
            check.same("told(5), set where it is", g.told(5), 0);
            check.same("go(3)", g.go(3), 1);
            g.stand(11);
            check.same("told(5), set elsewhere", g.told(5), 0);
        });
        edges.test(11, "Returns where it was", () -> {
            Roadgame g = Maps.ring(12, 0);
            check.act(g, "stand(0), where it is", () -> g.stand(0), 0);
            check.act(g, "stand(11)", () -> g.stand(11), 0);
            check.act(g, "stand(11), where it is", () -> g.stand(11), 11);
            g.go(0);
            check.act(g, "stand(5), after going", () -> g.stand(5), 0);
            check.same("told(4)", g.told(4), 5);
        });
        edges.outside(11, "place is not 0 to N - 1", Edges.place(Roadgame::stand));
    }

    private void go() {
        edges.test(12, "Returns how many ROUNDS it went then", () -> {
            Roadgame g = Maps.of(2, 0, 0, "0>1 1>1");
            check.act(g, "go(1)", () -> g.go(1), 1);
            check.act(g, "go(1), to itself", () -> g.go(1), 2);
            check.cannot(g, "go(0)", () -> g.go(0));
            check.act(g, "go(1), after -9", () -> g.go(1), 3);
            g.stand(0);
            check.act(g, "go(1), set anew", () -> g.go(1), 1);
            check.same("told(4)", g.told(4), 1);
        });
        edges.test(12, "-9 if there is no such WAY from where it is", () -> {
            Roadgame g = Maps.of(12, 0, 0, "11>0 0>1");
            check.cannot(g, "go(0), no way to itself", () -> g.go(0));
            check.cannot(g, "go(11), the way comes from there", () -> g.go(11));
            g.go(1);
            check.cannot(g, "go(1), no way at all", () -> g.go(1));
            check.cannot(g, "go(0), a way from elsewhere", () -> g.go(0));
            g.stand(11);
            check.act(g, "go(0)", () -> g.go(0), 1);
            g.lose(0, 1);
            check.cannot(g, "go(1), lost", () -> g.go(1));
        });
        edges.outside(12, "to is not 0 to N - 1", Edges.place(Roadgame::go));
    }

    private void follow() {
        edges.test(13, "0 COMING, 1 KEEPING, 2 AGAIN, each for that SIDE", () -> {
            // For each side from its own place: 0 of side 0, 1 of side 1; goal 2, where it goes to itself; 3 keeps.
            Roadgame g = Maps.of(4, 2, 4, "0>2 0>3 1>2 1>3 2>2 3>3");
            for (int place = 0; place <= 1; place++) {
                int[] due = {2, 3, 2};
                for (int game = 0; game <= 2; game++) {
                    int asked = game;
                    g.stand(place);
                    check.act(g, "follow(" + game + ") at " + place, () -> g.follow(asked), due[game]);
                }
            }
        });
        edges.test(13, "Returns where it is then", () -> {
            Roadgame g = Maps.of(12, 0, 2048, "0>11 11>11");
            check.act(g, "follow(2)", () -> g.follow(2), 11);
            check.same("told(4)", g.told(4), 11);
            check.same("told(5)", g.told(5), 1);
            check.act(g, "follow(2), to itself", () -> g.follow(2), 11);
            check.same("told(5), to itself", g.told(5), 2);
        });
        edges.test(13, "-9 if there is no told CHOICE", () -> {
            cannotFollow("no way, not in the goal", Maps.of(2, 0, 0, ""), 0, 1, 2);
            cannotFollow("no way, in the goal", Maps.of(2, 0, 1, ""), 0, 1, 2);
            cannotFollow("in the goal", Maps.of(2, 0, 1, "0>0"), 0, 1);
            cannotFollow("never the goal", Maps.of(2, 0, 0, "0>0"), 0, 2);
            cannotFollow("the goal, once", Maps.of(3, 0, 2, "0>1 1>2"), 1, 2);
            cannotFollow("of side 1, never the goal", Maps.of(2, 1, 0, "0>0"), 0, 2);
        });
        edges.illegal(13, "game is not 0 to 2", Edges.number(0, 2, Roadgame::follow));
    }

    private void cannotFollow(String where, Roadgame g, int... games) {
        for (int game : games) {
            check.cannot(g, where + ", follow(" + game + ")", () -> g.follow(game));
        }
        check.same(where + ", house(1)", g.house(1), games.length);
    }
}
