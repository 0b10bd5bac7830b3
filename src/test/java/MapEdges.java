import java.util.function.IntUnaryOperator;

/** The boundary cases of the map: "Map", and promises 1 to 10. */
final class MapEdges {
    private final Edges edges;
    private final Check check;

    MapEdges(Edges edges) {
        this.edges = edges;
        check = edges.check;
    }

    void run() {
        description();
        waysOfTheDescription();
        newObject();
        places();
        give();
        rank();
        goal();
        way();
        lose();
        circle();
        circleAtThirty();
        strew();
        strewnWays();
        change();
    }

    private void description() {
        edges.test("Map", "There are N PLACES, 0 to N - 1", () -> {
            for (int many = 2; many <= 12; many++) {
                Roadgame g = Maps.of(many, 0, 0, "");
                int last = many - 1;
                int past = many;
                check.same("rank(N - 1, 0) of " + many, g.rank(last, 0), 2);
                check.same("rank(0, 1) of " + many, g.rank(0, 1), 2);
                check.outside(g, "rank(N, 0) of " + many, () -> g.rank(past, 0));
                check.outside(g, "rank(-1, 0) of " + many, () -> g.rank(-1, 0));
            }
        });
        edges.test("Map", "N is 2 to 12, at first 6", () -> {
            Roadgame g = new Roadgame();
            check.same("told(0) at first", g.told(0), 6);
            check.illegal(g, "places(1)", () -> g.places(1));
            check.illegal(g, "places(13)", () -> g.places(13));
            g.places(2);
            check.same("told(0), the least", g.told(0), 2);
            g.places(12);
            check.same("told(0), the most", g.told(0), 12);
        });
        edges.test("Map", "Each PLACE is of SIDE 0 or 1, at first of SIDE 0", () -> eachAtFirst(0, 0));
        edges.test("Map", "has a RANK of 0 to 2, at first 2", () -> eachAtFirst(1, 2));
        edges.test("Map", "belongs to the GOAL or not, at first not", () -> eachAtFirst(2, 0));
        edges.test("Map", "A SET of PLACES is told as the sum of 2^p for each PLACE p in it", () -> {
            Roadgame g = Maps.of(12, 0, 4095, "");
            check.same("told(2) of all", g.told(2), 4095);
            for (int p = 0; p < 12; p++) {
                check.same("ofPlace(p, 2) of all", g.ofPlace(p, 2), 1);
            }
            g.goal(2048);
            check.same("ofPlace(11, 2) of the last", g.ofPlace(11, 2), 1);
            check.same("ofPlace(10, 2) of the last", g.ofPlace(10, 2), 0);
            g.goal(1);
            check.same("ofPlace(0, 2) of the first", g.ofPlace(0, 2), 1);
            check.same("ofPlace(11, 2) of the first", g.ofPlace(11, 2), 0);
            g.goal(0);
            check.same("told(2) of none", g.told(2), 0);
            check.same("ofPlace(0, 2) of none", g.ofPlace(0, 2), 0);
        });
    }

    private void eachAtFirst(int what, int due) {
        Roadgame g = new Roadgame();
        for (int p = 0; p < 6; p++) {
            check.same("ofPlace(" + p + ", " + what + ")", g.ofPlace(p, what), due);
        }
        g.places(12);
        for (int p = 0; p < 12; p++) {
            check.same("ofPlace(" + p + ", " + what + ") of twelve", g.ofPlace(p, what), due);
        }
    }

    private void waysOfTheDescription() {
        edges.test("Map", "A WAY goes from a PLACE to a PLACE (to itself, too)", () -> {
            Roadgame g = new Roadgame();
            check.act(g, "way(0, 0)", () -> g.way(0, 0), 1);
            check.act(g, "way(5, 5)", () -> g.way(5, 5), 1);
            check.act(g, "way(0, 5)", () -> g.way(0, 5), 1);
            check.same("ways(0)", g.ways(0), "0 5");
            check.same("ways(5)", g.ways(5), "5");
            check.same("told(1)", g.told(1), 3);
        });
        edges.test("Map", "there are none at first", () -> {
            Roadgame g = new Roadgame();
            check.same("told(1)", g.told(1), 0);
            check.same("told(6)", g.told(6), 6);
            for (int p = 0; p < 6; p++) {
                for (int q = 0; q < 6; q++) {
                    check.fails("isWay(" + p + ", " + q + ")", g.isWay(p, q));
                }
            }
        });
        edges.test("Map", "at most 30", () -> {
            Roadgame g = new Roadgame();
            for (int k = 0; k < 36; k++) {
                int from = k / 6;
                int to = k % 6;
                check.same("way " + (k + 1), g.way(from, to), k < 30 ? 1 : -9);
                check.same("told(1) after way " + (k + 1), g.told(1), k < 30 ? k + 1 : 30);
            }
        });
        edges.test("Map", "no two from the same PLACE to the same PLACE", () -> {
            Roadgame g = new Roadgame();
            g.way(2, 3);
            g.way(2, 3);
            check.same("told(1)", g.told(1), 1);
            g.way(3, 2);
            check.same("told(1), the other way round", g.told(1), 2);
            g.lose(2, 3);
            check.fails("isWay(2, 3), lost once", g.isWay(2, 3));
            check.same("told(1), lost once", g.told(1), 1);
        });
    }

    private void newObject() {
        edges.test(1, "Creates six places without ways", () -> {
            Roadgame g = new Roadgame();
            check.same("state", Check.stateOf(g), "6,0,0,0,0,0,6," + "0 2 0 0 0 ;".repeat(6));
            for (int what = 0; what <= 2; what++) {
                check.same("house(" + what + ")", g.house(what), 0);
            }
            check.outside(g, "ways(6)", () -> g.ways(6));
        });
    }

    private void places() {
        edges.test(2, "There are so many PLACES from now on", () -> {
            Roadgame g = new Roadgame();
            for (int many : new int[] {12, 2, 3, 11, 2, 12}) {
                g.places(many);
                check.same("told(0)", g.told(0), many);
                check.same("stand(N - 1)", g.stand(many - 1), 0);
                check.outside(g, "stand(N)", () -> g.stand(many));
            }
        });
        edges.test(2, "all is as at first, but what house() tells", () -> {
            for (int many : new int[] {2, 6, 12}) {
                Roadgame g = Maps.busy(many);
                check.act(g, "places(N), N as it was", () -> g.places(many), many);
                check.same("state", Check.stateOf(g), many + ",0,0,0,0,0," + many + "," + "0 2 0 0 0 ;".repeat(many));
                check.same("house(1)", g.house(1), 1);
                check.same("house(2)", g.house(2), 1);
            }
            Roadgame g = Maps.busy(12);
            g.places(2);
            g.places(12);
            check.same("state, 2 between", Check.stateOf(g), "12,0,0,0,0,0,12," + "0 2 0 0 0 ;".repeat(12));
        });
        edges.test(2, "Returns how many there were", () -> {
            Roadgame g = new Roadgame();
            check.act(g, "places(2)", () -> g.places(2), 6);
            check.act(g, "places(12)", () -> g.places(12), 2);
            check.act(g, "places(12) again", () -> g.places(12), 12);
            check.act(g, "places(2) again", () -> g.places(2), 12);
        });
        edges.illegal(2, "many is not 2 to 12", Edges.number(2, 12, Roadgame::places));
    }

    private void give() {
        edges.test(3, "Returns whose it was", () -> {
            Roadgame g = Maps.of(12, 0, 0, "");
            for (int p : new int[] {0, 11}) {
                check.act(g, "give(p, 0), as it was", () -> g.give(p, 0), 0);
                check.act(g, "give(p, 1)", () -> g.give(p, 1), 0);
                check.act(g, "give(p, 1), as it was", () -> g.give(p, 1), 1);
            }
            check.same("told(3), the first and the last", g.told(3), 2049);
            check.act(g, "give(11, 0)", () -> g.give(11, 0), 1);
            check.same("told(3), the first", g.told(3), 1);
        });
        edges.outside(3, "place is not 0 to N - 1", Edges.place((g, v) -> g.give(v, 0)));
        edges.illegal(3, "side is not 0 or 1", Edges.number(0, 1, (g, v) -> g.give(0, v)));
    }

    private void rank() {
        edges.test(4, "Returns what it was", () -> {
            Roadgame g = Maps.of(12, 0, 0, "");
            for (int p : new int[] {0, 11}) {
                check.act(g, "rank(p, 2), as it was", () -> g.rank(p, 2), 2);
                check.act(g, "rank(p, 0)", () -> g.rank(p, 0), 2);
                check.act(g, "rank(p, 0), as it was", () -> g.rank(p, 0), 0);
                check.act(g, "rank(p, 1)", () -> g.rank(p, 1), 0);
                check.act(g, "rank(p, 2)", () -> g.rank(p, 2), 1);
                check.act(g, "rank(p, 1), from 2", () -> g.rank(p, 1), 2);
                check.act(g, "rank(p, 0), from 1", () -> g.rank(p, 0), 1);
            }
            check.same("ofPlace(1, 1)", g.ofPlace(1, 1), 2);
            check.same("ofPlace(10, 1)", g.ofPlace(10, 1), 2);
        });
        edges.outside(4, "place is not 0 to N - 1", Edges.place((g, v) -> g.rank(v, 0)));
        edges.illegal(4, "rank is not 0 to 2", Edges.number(0, 2, (g, v) -> g.rank(0, v)));
    }

    private void goal() {
        edges.test(5, "Returns the SET that it was", () -> {
            for (int many : new int[] {2, 6, 12}) {
                Roadgame g = Maps.of(many, 0, 0, "");
                int all = (1 << many) - 1;
                check.act(g, "goal(0), as it was", () -> g.goal(0), 0);
                check.act(g, "goal of all", () -> g.goal(all), 0);
                check.act(g, "goal of all, as it was", () -> g.goal(all), all);
                check.act(g, "goal(0)", () -> g.goal(0), all);
                check.same("told(2)", g.told(2), 0);
            }
        });
        edges.illegal(5, "set is not 0 to 2^N - 1", Edges.set(Roadgame::goal));
    }

    private void way() {
        edges.test(6, "Returns 1; 0 if it is there already (it stays)", () -> {
            Roadgame g = Maps.of(12, 0, 0, "");
            check.act(g, "way(0, 11)", () -> g.way(0, 11), 1);
            check.act(g, "way(0, 11), there already", () -> g.way(0, 11), 0);
            check.holds("isWay(0, 11) stays", g.isWay(0, 11));
            check.act(g, "way(11, 0)", () -> g.way(11, 0), 1);
            check.act(g, "way(11, 11)", () -> g.way(11, 11), 1);
            check.act(g, "way(11, 11), there already", () -> g.way(11, 11), 0);
            check.same("told(1)", g.told(1), 3);
            Roadgame full = Maps.thirty();
            check.act(full, "way(5, 3), there already at thirty", () -> full.way(5, 3), 0);
            check.holds("isWay(5, 3) stays at thirty", full.isWay(5, 3));
            check.same("told(1) stays at thirty", full.told(1), 30);
        });
        edges.test(6, "otherwise -9 if there are 30", () -> {
            Roadgame g = Maps.thirty();
            g.lose(0, 0);
            check.act(g, "way(0, 5), the thirtieth", () -> g.way(0, 5), 1);
            check.cannot(g, "way(0, 0), the thirty-first", () -> g.way(0, 0));
            check.cannot(g, "way(5, 4), the thirty-first", () -> g.way(5, 4));
            check.fails("isWay(5, 4)", g.isWay(5, 4));
        });
        edges.outside(6, "from or to is not 0 to N - 1",
            Edges.place((g, v) -> g.way(v, 0)), Edges.place((g, v) -> g.way(0, v)));
    }

    private void lose() {
        edges.test(7, "Returns 1; 0 if there is none", () -> {
            Roadgame g = Maps.of(12, 0, 0, "0>11 11>11");
            check.act(g, "lose(11, 0), none that way round", () -> g.lose(11, 0), 0);
            check.act(g, "lose(0, 0), none", () -> g.lose(0, 0), 0);
            check.act(g, "lose(11, 11), to itself", () -> g.lose(11, 11), 1);
            check.act(g, "lose(11, 11), none then", () -> g.lose(11, 11), 0);
            check.act(g, "lose(0, 11), the last one", () -> g.lose(0, 11), 1);
            check.same("told(1)", g.told(1), 0);
            check.same("told(6)", g.told(6), 12);
        });
        edges.test(7, "Takes a WAY out", () -> {
            Roadgame g = Maps.thirty();
            check.act(g, "lose(0, 4), of thirty", () -> g.lose(0, 4), 1);
            check.same("told(1)", g.told(1), 29);
            check.same("ways(0)", g.ways(0), "0 1 2 3");
            check.act(g, "way(0, 4), again the thirtieth", () -> g.way(0, 4), 1);
            check.act(g, "lose(0, 5), none at thirty", () -> g.lose(0, 5), 0);
            check.same("told(1) then", g.told(1), 30);
        });
        edges.outside(7, "from or to is not 0 to N - 1",
            Edges.place((g, v) -> g.lose(v, 0)), Edges.place((g, v) -> g.lose(0, v)));
    }

    private void circle() {
        edges.test(8, "Puts in, from each PLACE p by rising numbers, the WAY to what remains of p + step divided by N", () -> {
            for (int many : new int[] {2, 3, 6, 11, 12}) {
                for (int step = 0; step <= 11; step++) {
                    Roadgame g = Maps.of(many, 0, 0, "");
                    check.same("circle(" + step + ") of " + many, g.circle(step), many);
                    for (int p = 0; p < many; p++) {
                        check.same("ways(" + p + ")", g.ways(p), "" + (p + step) % many);
                    }
                }
            }
        });
        edges.test(8, "if it is not there already", () -> {
            Roadgame g = Maps.of(12, 0, 0, "11>0 3>4 3>3");
            check.act(g, "circle(1), two there already", () -> g.circle(1), 10);
            check.same("told(1)", g.told(1), 13);
            check.act(g, "circle(1), all there already", () -> g.circle(1), 0);
            check.same("told(1) stays", g.told(1), 13);
            Roadgame two = Maps.of(2, 0, 0, "");
            check.act(two, "circle(1) of two", () -> two.circle(1), 2);
            check.act(two, "circle(11) of two, the same ways", () -> two.circle(11), 0);
            check.act(two, "circle(0) of two", () -> two.circle(0), 2);
            check.act(two, "circle(10) of two, the same ways", () -> two.circle(10), 0);
        });
        edges.illegal(8, "step is not 0 to 11", Edges.number(0, 11, Roadgame::circle));
    }

    private void circleAtThirty() {
        edges.test(8, "Returns how many were put in; -9 if there would be more than 30 WAYS", () -> {
            Roadgame g = new Roadgame();
            for (int step = 0; step < 4; step++) {
                int asked = step;
                check.act(g, "circle(" + step + ")", () -> g.circle(asked), 6);
            }
            check.act(g, "circle(4), up to the thirtieth", () -> g.circle(4), 6);
            check.same("told(1)", g.told(1), 30);
            check.cannot(g, "circle(5), past the thirtieth", () -> g.circle(5));
            check.act(g, "circle(4), all there already at thirty", () -> g.circle(4), 0);
            g.lose(0, 4);
            g.lose(1, 5);
            check.act(g, "circle(4), up to the thirtieth again", () -> g.circle(4), 2);
            for (int p = 0; p < 5; p++) {
                g.lose(p, p);
            }
            // There are 25 now, and circle(5) would put in six: one too many.
            check.same("told(1) before the thirty-first", g.told(1), 25);
            check.cannot(g, "circle(5), the thirty-first alone too many", () -> g.circle(5));
            check.fails("isWay(0, 5), none of them is put in", g.isWay(0, 5));
            g.lose(5, 5);
            check.act(g, "circle(5), up to the thirtieth", () -> g.circle(5), 6);
            check.same("told(1) then", g.told(1), 30);
            Roadgame one = Maps.of(6, 0, 0, "5>3");
            for (int step = 0; step < 4; step++) {
                one.circle(step);
            }
            check.act(one, "circle(4), up to the thirtieth, one there already", () -> one.circle(4), 5);
        });
    }

    private void strew() {
        edges.test(9, "Tells all anew but N, the STONE and its count of ROUNDS", () -> {
            for (int many : new int[] {2, 6, 12}) {
                Roadgame g = Maps.busy(many);
                Roadgame bare = Maps.of(many, 0, 0, "");
                int stone = g.told(4);
                int gone = g.told(5);
                check.same("told(4) before", stone, many - 1);
                check.same("told(5) before", gone, 1);
                g.strew(4);
                bare.strew(4);
                check.same("told(0)", g.told(0), many);
                check.same("told(4)", g.told(4), stone);
                check.same("told(5)", g.told(5), gone);
                bare.stand(0);
                for (int p = 0; p < many; p++) {
                    for (int what = 0; what <= 4; what++) {
                        check.same("ofPlace(" + p + ", " + what + ")", g.ofPlace(p, what), bare.ofPlace(p, what));
                    }
                }
            }
        });
        edges.test(9, "its SIDE is what remains of x divided by 2", () -> ofStrewn(x -> x % 2, 0, 3));
        edges.test(9, "its RANK what remains of x divided by 3", () -> ofStrewn(x -> x % 3, 1, 0));
        edges.test(9, "it belongs to the GOAL if what remains of x divided by 5 is 0",
            () -> ofStrewn(x -> x % 5 == 0 ? 1 : 0, 2, 2));
        edges.illegal(9, "seed is not 0 to 9999", Edges.number(0, 9999, Roadgame::strew));
    }

    /** The set that told() tells of these, too; where told is 0 there is none. */
    private void ofStrewn(IntUnaryOperator due, int what, int told) {
        for (int many : new int[] {2, 6, 12}) {
            for (int seed : new int[] {0, 1, 2, 3, 4, 5, 9998, 9999}) {
                Roadgame g = Maps.busy(many);
                g.strew(seed);
                int set = 0;
                for (int p = 0; p < many; p++) {
                    int x = seed + 7 * p + p * p;
                    check.same("seed " + seed + ", ofPlace(" + p + ", " + what + ")", g.ofPlace(p, what),
                        due.applyAsInt(x));
                    set += due.applyAsInt(x) << p;
                }
                if (told > 0) {
                    check.same("seed " + seed + ", told(" + told + ")", g.told(told), set);
                }
            }
        }
    }

    private void strewnWays() {
        edges.test(9, "its WAYS are those to what remains of x divided by N and to what remains of 3 * x + p divided by N", () -> {
            for (int many = 2; many <= 12; many++) {
                for (int seed : new int[] {0, 1, 9998, 9999}) {
                    Roadgame g = Maps.busy(many);
                    int sum = g.strew(seed);
                    for (int p = 0; p < many; p++) {
                        int x = seed + 7 * p + p * p;
                        int due = 1 << x % many | 1 << (3 * x + p) % many;
                        check.same("seed " + seed + ", ofPlace(" + p + ", 3)", g.ofPlace(p, 3), due);
                        sum -= Integer.bitCount(due);
                    }
                    check.same("seed " + seed + ", ways left over", sum, 0);
                }
            }
        });
        edges.test(9, "(one alone, if these are the same)", () -> {
            Roadgame g = Maps.of(2, 0, 0, "");
            // For place 0 of two 3 * x and x are odd or even together; for place 1 of two 3 * x + 1 and x never are.
            check.act(g, "strew(0)", () -> g.strew(0), 3);
            check.same("ways(0)", g.ways(0), "0");
            check.same("ways(1)", g.ways(1), "0 1");
            check.same("told(1)", g.told(1), 3);
        });
        edges.test(9, "Returns how many WAYS there are then", () -> {
            Roadgame g = Maps.thirty();
            // x is 0 8 18 30 44 60; x % 6 is 0 2 0 0 2 0; (3 * x + p) % 6 is 0 1 2 3 4 5.
            check.act(g, "strew(0), thirty before", () -> g.strew(0), 11);
            check.same("told(1)", g.told(1), 11);
            check.act(g, "strew(0), as it was", () -> g.strew(0), 11);
        });
    }

    private void change() {
        edges.test(10, "Each PLACE is of the other SIDE then", () -> {
            for (int many : new int[] {2, 6, 12}) {
                Roadgame g = Maps.of(many, 1, 0, "");
                int all = (1 << many) - 1;
                g.change();
                check.same("told(3) of " + many, g.told(3), all - 1);
                g.change();
                check.same("told(3) of " + many + " again", g.told(3), 1);
                check.same("ofPlace(N - 1, 0)", g.ofPlace(many - 1, 0), 0);
            }
        });
        edges.test(10, "Returns how many are of SIDE 0 then", () -> {
            for (int many : new int[] {2, 6, 12}) {
                Roadgame g = Maps.of(many, 0, 0, "");
                check.act(g, "change(), none of side 1 before", g::change, 0);
                check.act(g, "change(), all of side 1 before", g::change, many);
                g.give(many - 1, 1);
                check.act(g, "change(), one of side 1 before", g::change, 1);
            }
        });
    }
}
