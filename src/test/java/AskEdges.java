/** The boundary cases of what is asked of the map, and of the counts: promises 14 to 18, 34 and 35. */
final class AskEdges {
    private final Edges edges;
    private final Check check;

    AskEdges(Edges edges) {
        this.edges = edges;
        check = edges.check;
    }

    void run() {
        told();
        ofPlace();
        isWay();
        ways();
        ahead();
        house();
        knock();
    }

    private void told() {
        edges.test(14, "0 N, 1 how many WAYS there are, 2 the GOAL as a SET, 3 the PLACES of SIDE 1 as a SET", () -> {
            Roadgame g = new Roadgame();
            check.same("told(1) of none", g.told(1), 0);
            check.same("told(2) of none", g.told(2), 0);
            check.same("told(3) of none", g.told(3), 0);
            Roadgame full = Maps.thirty();
            full.goal(63);
            full.change();
            check.same("told(1) of thirty", full.told(1), 30);
            check.same("told(2) of all", full.told(2), 63);
            check.same("told(3) of all", full.told(3), 63);
            Roadgame large = Maps.of(12, 4095, 4095, "");
            check.same("told(0), the most", large.told(0), 12);
            check.same("told(2), the most", large.told(2), 4095);
            check.same("told(3), the most", large.told(3), 4095);
            Roadgame ends = Maps.of(2, 2, 1, "");
            check.same("told(0), the least", ends.told(0), 2);
            check.same("told(2) of the first", ends.told(2), 1);
            check.same("told(3) of the last", ends.told(3), 2);
        });
        edges.test(14, "4 where the STONE is, 5 how many ROUNDS it went", () -> {
            Roadgame g = Maps.of(12, 0, 0, "11>11");
            check.same("told(4) at first", g.told(4), 0);
            check.same("told(5) at first", g.told(5), 0);
            g.stand(11);
            g.go(11);
            g.go(11);
            check.same("told(4) at the last place", g.told(4), 11);
            check.same("told(5), twice to itself", g.told(5), 2);
        });
        edges.test(14, "6 how many PLACES have no WAY from them", () -> {
            Roadgame g = Maps.of(12, 0, 0, "");
            check.same("told(6) without ways", g.told(6), 12);
            for (int p = 0; p < 11; p++) {
                g.way(p, 11);
            }
            check.same("told(6), ways to it alone", g.told(6), 1);
            g.way(11, 11);
            check.same("told(6), a way to itself", g.told(6), 0);
            g.way(11, 0);
            g.lose(11, 11);
            check.same("told(6), one of two lost", g.told(6), 0);
            g.lose(11, 0);
            check.same("told(6), both lost", g.told(6), 1);
        });
        edges.illegal(14, "what is not 0 to 6", Edges.number(0, 6, Roadgame::told));
    }

    private void ofPlace() {
        edges.test(15, "3 the PLACES to which WAYS go from it, as a SET, 4 those from which WAYS come to it", () -> {
            Roadgame g = Maps.of(12, 0, 0, "");
            check.same("ofPlace(11, 3) of none", g.ofPlace(11, 3), 0);
            check.same("ofPlace(11, 4) of none", g.ofPlace(11, 4), 0);
            for (int p = 0; p < 12; p++) {
                g.way(11, p);
                g.way(p, 11);
            }
            check.same("ofPlace(11, 3) of all", g.ofPlace(11, 3), 4095);
            check.same("ofPlace(11, 4) of all", g.ofPlace(11, 4), 4095);
            check.same("ofPlace(0, 3), to the last", g.ofPlace(0, 3), 2048);
            check.same("ofPlace(0, 4), from the last", g.ofPlace(0, 4), 2048);
            Roadgame one = Maps.of(2, 0, 0, "0>1 1>1");
            check.same("ofPlace(1, 3), to itself alone", one.ofPlace(1, 3), 2);
            check.same("ofPlace(1, 4), from itself, too", one.ofPlace(1, 4), 3);
            check.same("ofPlace(0, 4), none", one.ofPlace(0, 4), 0);
        });
        edges.test(15, "0 its SIDE, 1 its RANK, 2 1 if it belongs to the GOAL, otherwise 0", () -> {
            Roadgame g = Maps.of(12, 2048, 2048, "");
            g.rank(11, 0);
            g.rank(0, 1);
            int[][] due = {{0, 1, 0}, {0, 2, 0}, {1, 0, 1}};
            int[] places = {0, 10, 11};
            for (int k = 0; k < places.length; k++) {
                for (int what = 0; what <= 2; what++) {
                    check.same("ofPlace(" + places[k] + ", " + what + ")", g.ofPlace(places[k], what), due[k][what]);
                }
            }
        });
        edges.outside(15, "place is not 0 to N - 1", Edges.place((g, v) -> g.ofPlace(v, 0)));
        edges.illegal(15, "what is not 0 to 4", Edges.number(0, 4, (g, v) -> g.ofPlace(0, v)));
    }

    private void isWay() {
        edges.test(16, "Returns whether there is that WAY", () -> {
            Roadgame g = Maps.of(12, 0, 0, "0>11 11>11");
            check.holds("isWay(0, 11)", g.isWay(0, 11));
            check.fails("isWay(11, 0), the other way round", g.isWay(11, 0));
            check.holds("isWay(11, 11), to itself", g.isWay(11, 11));
            check.fails("isWay(0, 0), to itself", g.isWay(0, 0));
            g.lose(0, 11);
            check.fails("isWay(0, 11), lost", g.isWay(0, 11));
        });
        edges.outside(16, "from or to is not 0 to N - 1",
            Edges.place((g, v) -> g.isWay(v, 0)), Edges.place((g, v) -> g.isWay(0, v)));
    }

    private void ways() {
        edges.test(17, "Returns the PLACES to which WAYS go from it, rising, with \" \" between", () -> {
            Roadgame g = Maps.of(12, 0, 0, "0>11");
            check.same("ways(0), one", g.ways(0), "11");
            check.same("ways(11), none, but one to it", g.ways(11), "");
            g.way(11, 11);
            check.same("ways(11), to itself", g.ways(11), "11");
            for (int p = 10; p >= 0; p--) {
                g.way(11, p);
            }
            check.same("ways(11), all, put in falling", g.ways(11), "0 1 2 3 4 5 6 7 8 9 10 11");
            g.lose(11, 0);
            g.lose(11, 11);
            check.same("ways(11), without the ends", g.ways(11), "1 2 3 4 5 6 7 8 9 10");
        });
        edges.outside(17, "place is not 0 to N - 1", Edges.place(Roadgame::ways));
    }

    private void ahead() {
        edges.test(18, "from which that SIDE can see to it that the PLACE that comes next is in the SET", () -> {
            // 0 of side 0 and 1 of side 1 go to 0 and 2; 2 goes to itself.
            Roadgame g = Maps.of(3, 2, 0, "0>0 0>2 1>0 1>2 2>2");
            int[][] due = {{0, 0}, {1, 2}, {0, 0}, {1, 2}, {5, 6}, {7, 7}, {5, 6}, {7, 7}};
            for (int set = 0; set <= 7; set++) {
                check.same("ahead(" + set + ", 0)", g.ahead(set, 0), due[set][0]);
                check.same("ahead(" + set + ", 1)", g.ahead(set, 1), due[set][1]);
            }
            check.same("ahead of all of twelve", Maps.ring(12, 0).ahead(4095, 1), 4095);
            check.same("ahead of the last of twelve", Maps.ring(12, 0).ahead(2048, 0), 1024);
        });
        edges.test(18, "those at which the other one is STUCK, too", () -> {
            Roadgame g = Maps.of(12, 2048, 0, "");
            check.same("ahead(0, 0)", g.ahead(0, 0), 2048);
            check.same("ahead(0, 1)", g.ahead(0, 1), 2047);
            check.same("ahead(4095, 0), not where it is stuck itself", g.ahead(4095, 0), 2048);
            check.same("ahead(4095, 1), not where it is stuck itself", g.ahead(4095, 1), 2047);
            g.way(11, 0);
            check.same("ahead(0, 0), not stuck any more", g.ahead(0, 0), 0);
        });
        edges.illegal(18, "set is not 0 to 2^N - 1, or side is not 0 or 1",
            Edges.set((g, v) -> g.ahead(v, 0)), Edges.number(0, 1, (g, v) -> g.ahead(0, v)));
    }

    private void house() {
        edges.test(34, "0 how many ACTS were done, 1 how often an ACT told -9, 2 how often one knocked", () -> {
            Roadgame g = new Roadgame();
            for (int what = 0; what <= 2; what++) {
                check.same("house(" + what + ") at first", g.house(what), 0);
            }
            g.stand(0);
            g.stand(0);
            g.stand(0);
            g.go(0);
            g.follow(0);
            g.knock();
            check.same("house(0)", g.house(0), 3);
            check.same("house(1)", g.house(1), 2);
            check.same("house(2)", g.house(2), 1);
            g.places(12);
            check.same("house(0), new places", g.house(0), 4);
            check.same("house(1), new places", g.house(1), 2);
            check.same("house(2), new places", g.house(2), 1);
        });
        edges.illegal(34, "what is not 0 to 2", Edges.number(0, 2, Roadgame::house));
    }

    private void knock() {
        edges.test(35, "Returns how often one knocked, with this", () -> {
            Roadgame g = Maps.busy(6);
            String before = Check.stateOf(g);
            int done = g.house(0);
            check.same("knock(), the second", g.knock(), 2);
            check.same("house(2)", g.house(2), 2);
            check.same("house(0)", g.house(0), done);
            check.same("house(1)", g.house(1), 1);
            check.same("the state", Check.stateOf(g), before);
            check.same("knock(), the first", new Roadgame().knock(), 1);
        });
    }
}
