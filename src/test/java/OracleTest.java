import java.util.Random;

/** Runs of calls by fixed seeds, each answer held against the one of Model, or of Solver where Model would take too long. */
public final class OracleTest {
    private static final Check check = new Check();
    private static int dense = 0;

    public static void main(String[] args) {
        for (int seed = 0; seed < 60; seed++) {
            mixedRun(seed, new Model());
            mixedRun(100 + seed, new Solver());
        }
        for (int seed = 0; seed < 500; seed++) {
            smallMap(seed);
        }
        for (int seed = 0; seed < 60; seed++) {
            largeMap(seed, 12 + seed % 15, new Model());
        }
        for (int seed = 100; seed < 300; seed++) {
            largeMap(seed, 15 + seed % 31, new Solver());
        }
        for (int seed = 0; seed < 10000; seed += 97) {
            strewnMap(seed, 2 + seed % 9, new Model());
            strewnMap(seed, 11 + seed % 2, new Solver());
        }
        check.holds("maps past the most choices were met: " + dense, dense >= 100);
        check.end("OracleTest");
    }

    private static void mixedRun(int seed, Model model) {
        Random random = new Random(seed);
        Roadgame game = new Roadgame();
        for (int k = 0; k < 60; k++) {
            act(random, game, model, "run " + seed + " act " + k);
            compareMap(game, model, "run " + seed + " act " + k);
            if (k % 6 == 5) {
                compareGames(game, model, "run " + seed + " act " + k);
            }
        }
    }

    private static void act(Random random, Roadgame game, Model model, String where) {
        int p = random.nextInt(model.n);
        int q = random.nextInt(model.n);
        switch (random.nextInt(24)) {
            case 0: {
                int many = random.nextInt(6) != 0 ? model.n : 2 + random.nextInt(11);
                if (many != model.n) {
                    check.same(where + " places", game.places(many), model.places(many));
                }
                break;
            }
            case 1:
            case 2:
            case 3: {
                int side = random.nextInt(2);
                check.same(where + " give", game.give(p, side), model.give(p, side));
                break;
            }
            case 4:
            case 5: {
                int rank = random.nextInt(3);
                check.same(where + " rank", game.rank(p, rank), model.rank(p, rank));
                break;
            }
            case 6: {
                int set = random.nextInt(1 << model.n) & random.nextInt(1 << model.n);
                check.same(where + " goal", game.goal(set), model.goal(set));
                break;
            }
            case 7:
            case 8:
            case 9:
            case 10:
            case 11:
            case 12:
                check.same(where + " way", game.way(p, q), model.way(p, q));
                break;
            case 13:
            case 14:
                check.same(where + " lose", game.lose(p, q), model.lose(p, q));
                break;
            case 15: {
                int step = random.nextInt(12);
                check.same(where + " circle", game.circle(step), model.circle(step));
                break;
            }
            case 16: {
                int seed = random.nextInt(10000);
                check.same(where + " strew", game.strew(seed), model.strew(seed));
                break;
            }
            case 17:
                check.same(where + " change", game.change(), model.change());
                break;
            case 18:
                check.same(where + " stand", game.stand(p), model.stand(p));
                break;
            case 19:
            case 20:
                check.same(where + " go", game.go(q), model.go(q));
                break;
            default: {
                int of = random.nextInt(3);
                if (model.mayBeReckoned()) {
                    check.same(where + " follow", game.follow(of), model.follow(of));
                }
                break;
            }
        }
    }

    private static void smallMap(int seed) {
        Random random = new Random(1000 + seed);
        Roadgame game = new Roadgame();
        Model model = new Model();
        fill(random, game, model, 2 + random.nextInt(5), 1 + random.nextInt(12));
        compareMap(game, model, "small " + seed);
        compareGames(game, model, "small " + seed);
    }

    private static void largeMap(int seed, int ways, Model model) {
        Random random = new Random(5000 + seed);
        Roadgame game = new Roadgame();
        fill(random, game, model, 9 + random.nextInt(4), ways);
        compareMap(game, model, "large " + seed);
        compareGames(game, model, "large " + seed);
    }

    private static void strewnMap(int seed, int many, Model model) {
        Roadgame game = new Roadgame();
        game.places(many);
        model.places(many);
        check.same("strewn " + seed, game.strew(seed), model.strew(seed));
        compareMap(game, model, "strewn " + seed);
        compareGames(game, model, "strewn " + seed);
    }

    private static void fill(Random random, Roadgame game, Model model, int many, int ways) {
        game.places(many);
        model.places(many);
        int goal = random.nextInt(1 << many);
        if (random.nextBoolean()) {
            goal &= random.nextInt(1 << many);
        }
        game.goal(goal);
        model.goal(goal);
        for (int p = 0; p < many; p++) {
            int side = random.nextInt(2);
            int rank = random.nextInt(3);
            game.give(p, side);
            model.give(p, side);
            game.rank(p, rank);
            model.rank(p, rank);
        }
        for (int k = 0; k < ways; k++) {
            int from = random.nextInt(many);
            int to = random.nextInt(many);
            game.way(from, to);
            model.way(from, to);
        }
    }

    private static void compareMap(Roadgame game, Model model, String where) {
        int without = 0;
        for (int p = 0; p < model.n; p++) {
            without += model.isStuck(p) ? 1 : 0;
            check.same(where + " side", game.ofPlace(p, 0), model.side[p]);
            check.same(where + " rank", game.ofPlace(p, 1), model.rank[p]);
            check.same(where + " in goal", game.ofPlace(p, 2), model.goal[p] ? 1 : 0);
            check.same(where + " ways from", game.ofPlace(p, 3), Model.setOf(model.way[p]));
            boolean[] into = new boolean[model.n];
            StringBuilder text = new StringBuilder();
            for (int q = 0; q < model.n; q++) {
                into[q] = model.way[q][p];
                check.same(where + " isWay", game.isWay(p, q) ? 1 : 0, model.way[p][q] ? 1 : 0);
                if (model.way[p][q]) {
                    text.append(text.length() == 0 ? "" : " ").append(q);
                }
            }
            check.same(where + " ways into", game.ofPlace(p, 4), Model.setOf(into));
            check.same(where + " ways()", game.ways(p), text.toString());
        }
        boolean[] second = new boolean[model.n];
        for (int p = 0; p < model.n; p++) {
            second[p] = model.side[p] == 1;
        }
        int[] due = {
            model.n, model.countWays(), Model.setOf(model.goal), Model.setOf(second), model.stone, model.gone, without,
        };
        for (int what = 0; what <= 6; what++) {
            check.same(where + " told(" + what + ")", game.told(what), due[what]);
        }
        check.same(where + " house(0)", game.house(0), model.done);
        check.same(where + " house(1)", game.house(1), model.refused);
        check.holds(where + " isSound()", game.isSound());
    }

    private static void compareGames(Roadgame game, Model model, String where) {
        if (!model.mayBeReckoned()) {
            return;
        }
        dense += model.triesTooMany() ? 1 : 0;
        for (int side = 0; side <= 1; side++) {
            String of = where + " side " + side;
            int[] won = new int[4];
            for (int kind = 0; kind <= 3; kind++) {
                won[kind] = Model.setOf(model.won(kind, side));
                int tried = model.choices(side) > 64 ? -9 : won[kind];
                check.same(of + " tried(" + kind + ")", game.tried(kind, side), tried);
            }
            check.same(of + " coming", game.coming(side), won[0]);
            check.same(of + " keeping", game.keeping(side), won[1]);
            check.same(of + " again", game.again(side), won[2]);
            check.same(of + " ranked", game.ranked(side), won[3]);
            check.same(of + " falls", game.falls(side), model.falls(side));
            check.same(of + " choices", game.choices(side), model.choices(side));
            comparePlaces(game, model, side, won, of);
            compareAhead(game, model, side, of);
            compareWhatWouldBe(game, model, side, of);
        }
    }

    private static void comparePlaces(Roadgame game, Model model, int side, int[] won, String of) {
        int[] rounds = model.rounds(Model.COMING, side);
        int[] again = model.rounds(Model.AGAIN, side);
        for (int p = 0; p < model.n; p++) {
            String at = of + " place " + p;
            check.same(at + " rounds", game.rounds(side, p), rounds[p]);
            check.same(at + " againRounds", game.againRounds(side, p), again[p]);
            check.same(at + " winner of coming", game.winner(side, p), (won[0] >> p & 1) == 1 ? side : 1 - side);
            check.same(at + " winner of again", game.winner(2 + side, p), (won[2] >> p & 1) == 1 ? side : 1 - side);
            check.same(at + " winner of ranked", game.winner(4, p), (won[3] >> p & 1) == 1 ? side : 1 - side);
            check.same(at + " play", game.play(side, p), model.play(side, p));
            for (int kind = 0; kind <= 2; kind++) {
                check.same(at + " choice(" + kind + ")", game.choice(kind, side, p), model.choice(kind, side, p));
            }
        }
        for (int kind = 0; kind <= 2; kind++) {
            check.holds(of + " isSure(" + kind + ")", game.isSure(kind, side));
        }
    }

    private static void compareAhead(Roadgame game, Model model, int side, String of) {
        for (int set = 0; set < 1 << model.n; set += model.n > 6 ? 37 : 1) {
            boolean[] in = new boolean[model.n];
            for (int p = 0; p < model.n; p++) {
                in[p] = (set >> p & 1) == 1;
            }
            check.same(of + " ahead(" + set + ")", game.ahead(set, side), Model.setOf(model.ahead(in, side)));
        }
    }

    private static void compareWhatWouldBe(Roadgame game, Model model, int side, String of) {
        String before = Check.stateOf(game);
        for (int p = 0; p < model.n; p++) {
            for (int kind = 0; kind <= 1; kind++) {
                int due = Model.setOf(model.withGoal(kind, side, p));
                check.same(of + " withGoal(" + kind + ", " + p + ")", game.withGoal(kind, side, p), due);
            }
            for (int kind = 0; kind <= 3; kind++) {
                int to = (3 * p + kind) % model.n;
                int due = Model.setOf(model.withWay(kind, side, p, to));
                check.same(of + " withWay(" + kind + ", " + p + ")", game.withWay(kind, side, p, to), due);
            }
        }
        check.same(of + " stays as it was", Check.stateOf(game), before);
    }
}
