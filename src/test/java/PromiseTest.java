/** Each promise of the document by hand-reckoned calls: ordinary inputs, edges and wrong inputs. */
public final class PromiseTest {
    private static final Check check = new Check();
    private static final int LOW = Integer.MIN_VALUE;
    private static final int HIGH = Integer.MAX_VALUE;

    public static void main(String[] args) {
        newObject();
        places();
        give();
        rank();
        goal();
        way();
        wayAtThirty();
        lose();
        circle();
        strew();
        change();
        stand();
        go();
        follow();
        told();
        ofPlace();
        isWay();
        ways();
        ahead();
        comingAndKeeping();
        again();
        ranked();
        winner();
        rounds();
        againRounds();
        falls();
        choice();
        isSure();
        play();
        choices();
        tried();
        withGoal();
        withWay();
        house();
        knock();
        isSound();
        digest();
        exceptionOrder();
        check.end("PromiseTest");
    }

    private static void newObject() {
        Roadgame g = new Roadgame();
        check.same("new told(0)", g.told(0), 6);
        for (int what = 1; what <= 5; what++) {
            check.same("new told(" + what + ")", g.told(what), 0);
        }
        check.same("new told(6)", g.told(6), 6);
        for (int p = 0; p < 6; p++) {
            check.same("new side", g.ofPlace(p, 0), 0);
            check.same("new rank", g.ofPlace(p, 1), 2);
            check.same("new goal", g.ofPlace(p, 2), 0);
            check.same("new ways", g.ofPlace(p, 3), 0);
            check.same("new ways in", g.ofPlace(p, 4), 0);
        }
        for (int what = 0; what <= 2; what++) {
            check.same("new house", g.house(what), 0);
        }
        check.same("new coming(1)", g.coming(1), 63);
        check.same("new coming(0)", g.coming(0), 0);
    }

    private static void places() {
        Roadgame g = Maps.four();
        g.rank(2, 0);
        g.rank(1, 1);
        g.stand(1);
        g.go(3);
        g.knock();
        g.go(1);
        check.same("house(1) before places", g.house(1), 1);
        check.act(g, "places(4)", () -> g.places(4), 4);
        check.same("places: state", Check.stateOf(g), "4,0,0,0,0,0,4,0 2 0 0 0 ;0 2 0 0 0 ;0 2 0 0 0 ;0 2 0 0 0 ;");
        check.same("places: house(1) stays", g.house(1), 1);
        check.same("places: house(2) stays", g.house(2), 1);
        check.act(g, "places(12)", () -> g.places(12), 4);
        check.same("told(0)", g.told(0), 12);
        check.same("told(6)", g.told(6), 12);
        g.way(11, 0);
        check.act(g, "places(2)", () -> g.places(2), 12);
        check.outside(g, "stand(2)", () -> g.stand(2));
        check.act(g, "places(12) again", () -> g.places(12), 2);
        check.same("no way from before", g.told(1), 0);
        for (int wrong : new int[] {1, 13, 0, -1, LOW, HIGH}) {
            check.illegal(g, "places(" + wrong + ")", () -> g.places(wrong));
        }
    }

    private static void give() {
        Roadgame g = new Roadgame();
        check.act(g, "give(5, 1)", () -> g.give(5, 1), 0);
        check.act(g, "give(5, 1) again", () -> g.give(5, 1), 1);
        check.same("told(3)", g.told(3), 32);
        check.act(g, "give(0, 1)", () -> g.give(0, 1), 0);
        check.act(g, "give(5, 0)", () -> g.give(5, 0), 1);
        check.same("told(3) then", g.told(3), 1);
        check.same("ofPlace(0, 0)", g.ofPlace(0, 0), 1);
        for (int wrong : new int[] {-1, 6, LOW, HIGH}) {
            check.outside(g, "give(" + wrong + ", 0)", () -> g.give(wrong, 0));
        }
        for (int wrong : new int[] {-1, 2, LOW, HIGH}) {
            check.illegal(g, "give(0, " + wrong + ")", () -> g.give(0, wrong));
        }
    }

    private static void rank() {
        Roadgame g = new Roadgame();
        check.act(g, "rank(0, 0)", () -> g.rank(0, 0), 2);
        check.act(g, "rank(0, 1)", () -> g.rank(0, 1), 0);
        check.act(g, "rank(0, 1) again", () -> g.rank(0, 1), 1);
        check.act(g, "rank(5, 0)", () -> g.rank(5, 0), 2);
        check.same("ofPlace(0, 1)", g.ofPlace(0, 1), 1);
        check.same("ofPlace(5, 1)", g.ofPlace(5, 1), 0);
        check.same("ofPlace(1, 1)", g.ofPlace(1, 1), 2);
        check.act(g, "rank(0, 2)", () -> g.rank(0, 2), 1);
        check.same("ofPlace(0, 1) then", g.ofPlace(0, 1), 2);
        for (int wrong : new int[] {-1, 6, LOW, HIGH}) {
            check.outside(g, "rank(" + wrong + ", 0)", () -> g.rank(wrong, 0));
        }
        for (int wrong : new int[] {-1, 3, LOW, HIGH}) {
            check.illegal(g, "rank(0, " + wrong + ")", () -> g.rank(0, wrong));
        }
    }

    private static void goal() {
        Roadgame g = new Roadgame();
        check.act(g, "goal(63)", () -> g.goal(63), 0);
        check.act(g, "goal(5)", () -> g.goal(5), 63);
        check.act(g, "goal(5) again", () -> g.goal(5), 5);
        check.same("told(2)", g.told(2), 5);
        check.same("ofPlace(2, 2)", g.ofPlace(2, 2), 1);
        check.same("ofPlace(1, 2)", g.ofPlace(1, 2), 0);
        for (int wrong : new int[] {-1, 64, LOW, HIGH}) {
            check.illegal(g, "goal(" + wrong + ")", () -> g.goal(wrong));
        }
        g.places(12);
        check.act(g, "goal(4095)", () -> g.goal(4095), 0);
        check.illegal(g, "goal(4096)", () -> g.goal(4096));
        g.places(2);
        check.act(g, "goal(3)", () -> g.goal(3), 0);
        check.illegal(g, "goal(4)", () -> g.goal(4));
        check.act(g, "goal(0)", () -> g.goal(0), 3);
    }

    private static void way() {
        Roadgame g = new Roadgame();
        check.act(g, "way(0, 5)", () -> g.way(0, 5), 1);
        check.act(g, "way(0, 5) again", () -> g.way(0, 5), 0);
        check.act(g, "way(5, 5)", () -> g.way(5, 5), 1);
        check.act(g, "way(5, 0)", () -> g.way(5, 0), 1);
        check.same("told(1)", g.told(1), 3);
        check.same("ways(5)", g.ways(5), "0 5");
        for (int wrong : new int[] {-1, 6, LOW, HIGH}) {
            check.outside(g, "way(" + wrong + ", 0)", () -> g.way(wrong, 0));
            check.outside(g, "way(0, " + wrong + ")", () -> g.way(0, wrong));
        }
    }

    private static void wayAtThirty() {
        Roadgame g = Maps.thirty();
        check.same("told(1) at thirty", g.told(1), 30);
        check.cannot(g, "way(0, 5) at thirty", () -> g.way(0, 5));
        check.act(g, "way(0, 4) at thirty", () -> g.way(0, 4), 0);
        check.outside(g, "way(6, 0) at thirty", () -> g.way(6, 0));
        g.lose(3, 3);
        check.act(g, "way(0, 5) at twenty-nine", () -> g.way(0, 5), 1);
        check.cannot(g, "way(3, 3) at thirty", () -> g.way(3, 3));
    }

    private static void lose() {
        Roadgame g = new Roadgame();
        g.way(1, 2);
        g.way(1, 3);
        check.act(g, "lose(2, 1)", () -> g.lose(2, 1), 0);
        check.act(g, "lose(1, 2)", () -> g.lose(1, 2), 1);
        check.act(g, "lose(1, 2) again", () -> g.lose(1, 2), 0);
        check.same("ways(1)", g.ways(1), "3");
        check.same("told(1)", g.told(1), 1);
        for (int wrong : new int[] {-1, 6, LOW, HIGH}) {
            check.outside(g, "lose(" + wrong + ", 0)", () -> g.lose(wrong, 0));
            check.outside(g, "lose(0, " + wrong + ")", () -> g.lose(0, wrong));
        }
    }

    private static void circle() {
        Roadgame g = new Roadgame();
        check.act(g, "circle(1)", () -> g.circle(1), 6);
        check.same("ways(5)", g.ways(5), "0");
        check.act(g, "circle(7)", () -> g.circle(7), 0);
        g.lose(2, 3);
        check.act(g, "circle(1) again", () -> g.circle(1), 1);
        check.act(g, "circle(11)", () -> g.circle(11), 6);
        check.same("ways(0)", g.ways(0), "1 5");
        check.act(g, "circle(0)", () -> g.circle(0), 6);
        check.act(g, "circle(2)", () -> g.circle(2), 6);
        check.act(g, "circle(3)", () -> g.circle(3), 6);
        check.same("told(1)", g.told(1), 30);
        check.cannot(g, "circle(4)", () -> g.circle(4));
        check.act(g, "circle(5) at thirty", () -> g.circle(5), 0);
        g.lose(0, 0);
        check.cannot(g, "circle(4) at twenty-nine", () -> g.circle(4));
        for (int wrong : new int[] {-1, 12, LOW, HIGH}) {
            check.illegal(g, "circle(" + wrong + ")", () -> g.circle(wrong));
        }
        circleOnOtherSizes();
    }

    private static void circleOnOtherSizes() {
        Roadgame g = new Roadgame();
        g.places(12);
        g.give(0, 1);
        g.goal(7);
        g.rank(3, 1);
        g.stand(4);
        check.act(g, "circle(11) of twelve", () -> g.circle(11), 12);
        check.same("ways(0) of twelve", g.ways(0), "11");
        check.act(g, "circle(10) of twelve", () -> g.circle(10), 12);
        check.cannot(g, "circle(9) of twelve", () -> g.circle(9));
        check.same("circle leaves the sides", g.told(3), 1);
        check.same("circle leaves the goal", g.told(2), 7);
        check.same("circle leaves the ranks", g.ofPlace(3, 1), 1);
        check.same("circle leaves the stone", g.told(4), 4);
        g.places(2);
        check.act(g, "circle(11) of two", () -> g.circle(11), 2);
        check.same("ways(0) of two", g.ways(0), "1");
    }

    private static void strew() {
        Roadgame g = Maps.four();
        g.stand(1);
        g.go(3);
        g.rank(0, 1);
        check.act(g, "strew(0)", () -> g.strew(0), 7);
        // x is 0, 8, 18, 30: sides 0 0 0 0, ranks 0 2 0 0, goal 0 and 3.
        check.same("strew(0): goal", g.told(2), 9);
        check.same("strew(0): sides", g.told(3), 0);
        check.same("strew(0): rank of 0", g.ofPlace(0, 1), 0);
        check.same("strew(0): rank of 1", g.ofPlace(1, 1), 2);
        check.same("strew(0): rank of 2", g.ofPlace(2, 1), 0);
        check.same("strew(0): rank of 3", g.ofPlace(3, 1), 0);
        // 0: 0 and 0; 1: 8 % 4 and 25 % 4; 2: 18 % 4 and 56 % 4; 3: 30 % 4 and 93 % 4.
        check.same("strew(0): ways(0)", g.ways(0), "0");
        check.same("strew(0): ways(1)", g.ways(1), "0 1");
        check.same("strew(0): ways(2)", g.ways(2), "0 2");
        check.same("strew(0): ways(3)", g.ways(3), "1 2");
        check.same("strew leaves N", g.told(0), 4);
        check.same("strew leaves the stone", g.told(4), 3);
        check.same("strew leaves its rounds", g.told(5), 1);
        g.places(2);
        check.act(g, "strew(9999)", () -> g.strew(9999), 3);
        // x is 9999 and 10007: ranks 0 and 2, none in the goal; 0: 9999 and 29997 % 2; 1: 10007 and 30022 % 2.
        check.same("strew(9999)", Check.stateOf(g), "2,3,0,3,0,0,0,1 0 0 2 2 ;1 2 0 3 3 ;");
        g.strew(1);
        // x is 1 and 9: ranks 1 and 0; 0: 1 and 3 % 2; 1: 9 % 2 and 28 % 2.
        check.same("strew(1)", Check.stateOf(g), "2,3,0,3,0,0,0,1 1 0 2 2 ;1 0 0 3 3 ;");
        for (int wrong : new int[] {-1, 10000, LOW, HIGH}) {
            check.illegal(g, "strew(" + wrong + ")", () -> g.strew(wrong));
        }
    }

    private static void change() {
        Roadgame g = Maps.four();
        check.act(g, "change()", g::change, 2);
        check.same("told(3)", g.told(3), 5);
        g.give(1, 1);
        check.act(g, "change() then", g::change, 3);
        check.same("told(3) then", g.told(3), 8);
        check.act(g, "change() back", g::change, 1);
        Roadgame all = new Roadgame();
        check.act(all, "change() of all", all::change, 0);
        check.same("told(3) of all", all.told(3), 63);
        check.same("change leaves the ways", g.told(1), 7);
        check.same("change leaves the goal", g.told(2), 8);
    }

    private static void stand() {
        Roadgame g = Maps.four();
        check.act(g, "stand(3)", () -> g.stand(3), 0);
        g.go(2);
        check.same("told(5) before", g.told(5), 1);
        check.act(g, "stand(2)", () -> g.stand(2), 2);
        check.same("told(5) then", g.told(5), 0);
        check.same("told(4) then", g.told(4), 2);
        check.act(g, "stand(0)", () -> g.stand(0), 2);
        g.go(1);
        for (int wrong : new int[] {-1, 4, LOW, HIGH}) {
            check.outside(g, "stand(" + wrong + ")", () -> g.stand(wrong));
        }
    }

    private static void go() {
        Roadgame g = Maps.four();
        check.act(g, "go(2)", () -> g.go(2), 1);
        check.act(g, "go(3)", () -> g.go(3), 2);
        check.same("told(4)", g.told(4), 3);
        check.same("told(5)", g.told(5), 2);
        check.cannot(g, "go(3) without a way", () -> g.go(3));
        check.cannot(g, "go(0) without a way", () -> g.go(0));
        g.way(3, 3);
        check.act(g, "go(3) to itself", () -> g.go(3), 3);
        for (int wrong : new int[] {-1, 4, LOW, HIGH}) {
            check.outside(g, "go(" + wrong + ")", () -> g.go(wrong));
        }
    }

    private static void follow() {
        Roadgame g = Maps.four();
        check.act(g, "follow(0) at 0", () -> g.follow(0), 2);
        check.same("told(4)", g.told(4), 2);
        check.same("told(5)", g.told(5), 1);
        check.act(g, "follow(1) at 2", () -> g.follow(1), 0);
        g.follow(0);
        check.act(g, "follow(2) at 2", () -> g.follow(2), 3);
        check.same("told(5) then", g.told(5), 4);
        check.cannot(g, "follow(0) in the goal", () -> g.follow(0));
        check.cannot(g, "follow(1) not won", () -> g.follow(1));
        check.cannot(g, "follow(2) not won", () -> g.follow(2));
        g.stand(1);
        check.act(g, "follow(0) of side 1", () -> g.follow(0), 3);
        for (int wrong : new int[] {-1, 3, LOW, HIGH}) {
            check.illegal(g, "follow(" + wrong + ")", () -> g.follow(wrong));
        }
        Roadgame bare = new Roadgame();
        for (int game = 0; game <= 2; game++) {
            int asked = game;
            check.cannot(bare, "follow(" + game + ") without ways", () -> bare.follow(asked));
        }
    }

    private static void told() {
        Roadgame g = Maps.four();
        g.lose(3, 2);
        g.stand(2);
        g.go(3);
        int[] due = {4, 6, 8, 10, 3, 1, 1};
        for (int what = 0; what <= 6; what++) {
            check.same("told(" + what + ")", g.told(what), due[what]);
        }
        for (int wrong : new int[] {-1, 7, LOW, HIGH}) {
            check.illegal(g, "told(" + wrong + ")", () -> g.told(wrong));
        }
    }

    private static void ofPlace() {
        Roadgame g = Maps.four();
        g.rank(3, 1);
        int[] due = {1, 1, 1, 4, 6};
        for (int what = 0; what <= 4; what++) {
            check.same("ofPlace(3, " + what + ")", g.ofPlace(3, what), due[what]);
        }
        check.same("ofPlace(0, 3)", g.ofPlace(0, 3), 6);
        check.same("ofPlace(0, 4)", g.ofPlace(0, 4), 6);
        check.same("ofPlace(1, 4)", g.ofPlace(1, 4), 1);
        for (int wrong : new int[] {-1, 4, LOW, HIGH}) {
            check.outside(g, "ofPlace(" + wrong + ", 0)", () -> g.ofPlace(wrong, 0));
        }
        for (int wrong : new int[] {-1, 5, LOW, HIGH}) {
            check.illegal(g, "ofPlace(0, " + wrong + ")", () -> g.ofPlace(0, wrong));
        }
    }

    private static void isWay() {
        Roadgame g = Maps.four();
        check.holds("isWay(0, 1)", g.isWay(0, 1));
        check.holds("isWay(3, 2)", g.isWay(3, 2));
        check.fails("isWay(3, 1)", g.isWay(3, 1));
        check.fails("isWay(0, 0)", g.isWay(0, 0));
        for (int wrong : new int[] {-1, 4, LOW, HIGH}) {
            check.outside(g, "isWay(" + wrong + ", 0)", () -> g.isWay(wrong, 0));
            check.outside(g, "isWay(0, " + wrong + ")", () -> g.isWay(0, wrong));
        }
    }

    private static void ways() {
        Roadgame g = new Roadgame();
        g.places(12);
        check.same("ways of none", g.ways(4), "");
        g.way(4, 11);
        check.same("ways of one", g.ways(4), "11");
        g.way(4, 0);
        g.way(4, 10);
        g.way(4, 4);
        check.same("ways of four", g.ways(4), "0 4 10 11");
        for (int wrong : new int[] {-1, 12, LOW, HIGH}) {
            check.outside(g, "ways(" + wrong + ")", () -> g.ways(wrong));
        }
    }

    private static void ahead() {
        Roadgame g = Maps.four();
        check.same("ahead(8, 0)", g.ahead(8, 0), 4);
        check.same("ahead(8, 1)", g.ahead(8, 1), 2);
        check.same("ahead(6, 0)", g.ahead(6, 0), 9);
        check.same("ahead(6, 1)", g.ahead(6, 1), 9);
        check.same("ahead(9, 0)", g.ahead(9, 0), 6);
        check.same("ahead(0, 0)", g.ahead(0, 0), 0);
        check.same("ahead(15, 1)", g.ahead(15, 1), 15);
        Roadgame s = Maps.stuck();
        check.same("ahead(0, 0) stuck", s.ahead(0, 0), 2);
        check.same("ahead(0, 1) stuck", s.ahead(0, 1), 1);
        check.same("ahead(7, 0) stuck", s.ahead(7, 0), 6);
        check.same("ahead(2, 1) stuck", s.ahead(2, 1), 1);
        check.same("ahead(3, 1) stuck", s.ahead(3, 1), 5);
        for (int wrong : new int[] {-1, 8, LOW, HIGH}) {
            check.illegal(s, "ahead(" + wrong + ", 0)", () -> s.ahead(wrong, 0));
        }
        for (int wrong : new int[] {-1, 2, LOW, HIGH}) {
            check.illegal(s, "ahead(0, " + wrong + ")", () -> s.ahead(0, wrong));
        }
    }

    private static void comingAndKeeping() {
        Roadgame g = Maps.four();
        check.same("coming(0)", g.coming(0), 15);
        check.same("keeping(1)", g.keeping(1), 0);
        check.same("coming(1)", g.coming(1), 10);
        check.same("keeping(0)", g.keeping(0), 5);
        Roadgame s = Maps.stuck();
        check.same("coming(0) stuck", s.coming(0), 6);
        check.same("keeping(1) stuck", s.keeping(1), 1);
        check.same("coming(1) stuck", s.coming(1), 1);
        check.same("keeping(0) stuck", s.keeping(0), 6);
        s.goal(1);
        check.same("coming(0), stuck in the goal", s.coming(0), 7);
        check.same("keeping(1), stuck in the goal", s.keeping(1), 0);
        for (int wrong : new int[] {-1, 2, LOW, HIGH}) {
            check.illegal(s, "coming(" + wrong + ")", () -> s.coming(wrong));
            check.illegal(s, "keeping(" + wrong + ")", () -> s.keeping(wrong));
        }
    }

    private static void again() {
        Roadgame g = Maps.four();
        check.same("again(0)", g.again(0), 15);
        check.same("again(1)", g.again(1), 0);
        Roadgame s = Maps.stuck();
        s.goal(1);
        check.same("again(0), stuck in the goal", s.again(0), 6);
        check.same("again(1), the other one stuck", s.again(1), 1);
        check.same("again(0) past the lure", Maps.lure().again(0), 5);
        check.same("coming(0) with the lure", Maps.lure().coming(0), 7);
        check.same("again(1) with the lure", Maps.lure().again(1), 0);
        check.same("again(0) of a line in the goal", Maps.line(4095, 2).again(0), 0);
        for (int wrong : new int[] {-1, 2, LOW, HIGH}) {
            check.illegal(s, "again(" + wrong + ")", () -> s.again(wrong));
        }
    }

    private static void ranked() {
        Roadgame g = Maps.four();
        check.same("ranked(0), all 2", g.ranked(0), 15);
        check.same("ranked(1), all 2", g.ranked(1), 0);
        g.rank(3, 1);
        check.same("ranked(0), past rank 1", g.ranked(0), 15);
        g.rank(0, 1);
        check.same("ranked(1), each round has rank 1", g.ranked(1), 15);
        check.same("ranked(0), each round has rank 1", g.ranked(0), 0);
        g.rank(2, 0);
        check.same("ranked(0), 0 is less than 1", g.ranked(0), 15);
        Roadgame s = Maps.stuck();
        check.same("ranked(0) stuck", s.ranked(0), 6);
        check.same("ranked(1) stuck", s.ranked(1), 1);
        Roadgame loops = new Roadgame();
        loops.places(3);
        loops.circle(0);
        loops.rank(0, 0);
        loops.rank(1, 1);
        check.same("ranked(0) of loops", loops.ranked(0), 5);
        check.same("ranked(1) of loops", loops.ranked(1), 2);
        check.same("ranked(0) of a line of rank 0", Maps.line(0, 0).ranked(0), 0);
        check.same("ranked(0) of a line of rank 2", Maps.line(0, 2).ranked(0), 0);
        Roadgame up = Maps.line(0, 1);
        up.give(11, 1);
        check.same("ranked(0) of a line to where the other one is stuck", up.ranked(0), 4095);
        up.way(11, 11);
        check.same("ranked(0) of a line to rank 1", up.ranked(0), 0);
        for (int wrong : new int[] {-1, 2, LOW, HIGH}) {
            check.illegal(s, "ranked(" + wrong + ")", () -> s.ranked(wrong));
        }
    }

    private static void winner() {
        Roadgame g = Maps.four();
        g.rank(0, 1);
        g.rank(3, 1);
        int[][] due = {{0, 0, 0, 0}, {0, 1, 0, 1}, {0, 0, 0, 0}, {0, 0, 0, 0}, {1, 1, 1, 1}};
        for (int game = 0; game <= 4; game++) {
            for (int p = 0; p < 4; p++) {
                check.same("winner(" + game + ", " + p + ")", g.winner(game, p), due[game][p]);
            }
        }
        Roadgame s = Maps.stuck();
        int[] lost = {1, 0, 0};
        for (int game = 0; game <= 4; game++) {
            for (int p = 0; p < 3; p++) {
                check.same("winner(" + game + ", " + p + ") stuck", s.winner(game, p), lost[p]);
            }
        }
        check.same("winner(0, 1) in the lure", Maps.lure().winner(0, 1), 0);
        check.same("winner(2, 1) in the lure", Maps.lure().winner(2, 1), 1);
        check.same("winner(3, 1) in the lure", Maps.lure().winner(3, 1), 0);
        for (int wrong : new int[] {-1, 4, LOW, HIGH}) {
            check.outside(g, "winner(0, " + wrong + ")", () -> g.winner(0, wrong));
        }
        for (int wrong : new int[] {-1, 5, LOW, HIGH}) {
            check.illegal(g, "winner(" + wrong + ", 0)", () -> g.winner(wrong, 0));
        }
    }

    private static void rounds() {
        Roadgame g = Maps.four();
        int[][] due = {{2, 3, 1, 0}, {-1, 1, -1, 0}};
        for (int side = 0; side <= 1; side++) {
            for (int p = 0; p < 4; p++) {
                check.same("rounds(" + side + ", " + p + ")", g.rounds(side, p), due[side][p]);
            }
        }
        Roadgame s = Maps.stuck();
        check.same("rounds(0, 0) stuck", s.rounds(0, 0), -1);
        check.same("rounds(0, 1) stuck", s.rounds(0, 1), 0);
        check.same("rounds(0, 2) stuck", s.rounds(0, 2), 1);
        Roadgame line = new Roadgame();
        line.places(12);
        line.circle(1);
        line.goal(2048);
        check.same("rounds(0, 0) on a line", line.rounds(0, 0), 11);
        check.same("rounds(1, 0) on a line", line.rounds(1, 0), 11);
        Roadgame fork = new Roadgame();
        fork.places(3);
        fork.give(0, 1);
        fork.way(0, 1);
        fork.way(0, 2);
        fork.way(1, 2);
        fork.goal(4);
        check.same("rounds(0, 0) at a fork of the other one", fork.rounds(0, 0), 2);
        check.same("rounds(1, 0) at a fork of its own", fork.rounds(1, 0), 1);
        for (int wrong : new int[] {-1, 4, LOW, HIGH}) {
            check.outside(g, "rounds(0, " + wrong + ")", () -> g.rounds(0, wrong));
        }
        for (int wrong : new int[] {-1, 2, LOW, HIGH}) {
            check.illegal(g, "rounds(" + wrong + ", 0)", () -> g.rounds(wrong, 0));
        }
    }

    private static void againRounds() {
        Roadgame g = Maps.four();
        int[][] due = {{2, 3, 1, 0}, {-1, -1, -1, -1}};
        for (int side = 0; side <= 1; side++) {
            for (int p = 0; p < 4; p++) {
                check.same("againRounds(" + side + ", " + p + ")", g.againRounds(side, p), due[side][p]);
            }
        }
        Roadgame far = Maps.lure();
        far.lose(0, 2);
        far.way(0, 3);
        far.way(3, 2);
        far.lose(3, 3);
        far.lose(1, 3);
        far.way(1, 1);
        far.goal(4);
        // 0 goes to 1 and 3, 3 to 2, 2 to 0; 1 stays at itself.
        check.same("againRounds(0, 0), far", far.againRounds(0, 0), 2);
        check.same("againRounds(0, 1), far", far.againRounds(0, 1), -1);
        Roadgame l = Maps.lure();
        check.same("rounds(0, 1) in the lure", l.rounds(0, 1), 0);
        check.same("againRounds(0, 1) in the lure", l.againRounds(0, 1), -1);
        check.same("againRounds(0, 0) past the lure", l.againRounds(0, 0), 1);
        check.same("againRounds(0, 2) past the lure", l.againRounds(0, 2), 0);
        Roadgame s = Maps.stuck();
        check.same("againRounds(0, 1) stuck", s.againRounds(0, 1), 0);
        check.same("againRounds(0, 2) stuck", s.againRounds(0, 2), 1);
        for (int wrong : new int[] {-1, 4, LOW, HIGH}) {
            check.outside(g, "againRounds(0, " + wrong + ")", () -> g.againRounds(0, wrong));
        }
        for (int wrong : new int[] {-1, 2, LOW, HIGH}) {
            check.illegal(g, "againRounds(" + wrong + ", 0)", () -> g.againRounds(wrong, 0));
        }
    }

    private static void falls() {
        Roadgame g = Maps.four();
        check.same("falls(0)", g.falls(0), 0);
        check.same("falls(1)", g.falls(1), 2);
        check.same("falls(0) of the lure", Maps.lure().falls(0), 2);
        // Left after each: 0 1 2, then 2 alone (from 0 it goes to 1, too), then none.
        check.same("falls(1) of the lure", Maps.lure().falls(1), 3);
        check.same("falls(0) stuck", Maps.stuck().falls(0), 1);
        check.same("falls(1) stuck", Maps.stuck().falls(1), 1);
        Roadgame line = Maps.line(4095, 2);
        check.same("falls(0) of a line in the goal", line.falls(0), 12);
        check.same("falls(1) of a line in the goal", line.falls(1), 0);
        for (int wrong : new int[] {-1, 2, LOW, HIGH}) {
            check.illegal(g, "falls(" + wrong + ")", () -> g.falls(wrong));
        }
    }

    private static void choice() {
        Roadgame g = Maps.four();
        int[][][] due = {
            {{2, -1, 3, -1}, {-1, 3, -1, -1}},
            {{2, -1, 0, -1}, {-1, -1, -1, -1}},
            {{2, -1, 3, -1}, {-1, -1, -1, -1}},
        };
        for (int game = 0; game <= 2; game++) {
            for (int side = 0; side <= 1; side++) {
                for (int p = 0; p < 4; p++) {
                    check.same("choice(" + game + ", " + side + ", " + p + ")", g.choice(game, side, p), due[game][side][p]);
                }
            }
        }
        Roadgame l = Maps.lure();
        check.same("choice(0, 0, 0) to the lure", l.choice(0, 0, 0), 1);
        check.same("choice(0, 0, 2) in the goal", l.choice(0, 0, 2), -1);
        check.same("choice(2, 0, 0) past the lure", l.choice(2, 0, 0), 2);
        check.same("choice(2, 0, 2) in the goal", l.choice(2, 0, 2), 0);
        check.same("choice(2, 0, 1) in the lure", l.choice(2, 0, 1), -1);
        check.same("choice(1, 0, 3)", l.choice(1, 0, 3), 3);
        l.way(2, 2);
        l.way(2, 3);
        check.same("choice(2, 0, 2) is the least that is won", l.choice(2, 0, 2), 0);
        l.lose(2, 0);
        check.same("choice(2, 0, 2) at itself", l.choice(2, 0, 2), 2);
        for (int wrong : new int[] {-1, 4, LOW, HIGH}) {
            check.outside(g, "choice(0, 0, " + wrong + ")", () -> g.choice(0, 0, wrong));
        }
        for (int wrong : new int[] {-1, 3, LOW, HIGH}) {
            check.illegal(g, "choice(" + wrong + ", 0, 0)", () -> g.choice(wrong, 0, 0));
        }
        for (int wrong : new int[] {-1, 2, LOW, HIGH}) {
            check.illegal(g, "choice(0, " + wrong + ", 0)", () -> g.choice(0, wrong, 0));
        }
    }

    private static void isSure() {
        Roadgame[] games = {new Roadgame(), Maps.four(), Maps.stuck(), Maps.lure(), Maps.thirty()};
        for (Roadgame g : games) {
            for (int game = 0; game <= 2; game++) {
                check.holds("isSure(" + game + ", 0)", g.isSure(game, 0));
                check.holds("isSure(" + game + ", 1)", g.isSure(game, 1));
            }
        }
        Roadgame g = Maps.four();
        for (int wrong : new int[] {-1, 3, LOW, HIGH}) {
            check.illegal(g, "isSure(" + wrong + ", 0)", () -> g.isSure(wrong, 0));
        }
        for (int wrong : new int[] {-1, 2, LOW, HIGH}) {
            check.illegal(g, "isSure(0, " + wrong + ")", () -> g.isSure(0, wrong));
        }
    }

    private static void play() {
        Roadgame g = Maps.four();
        check.same("play(0, 1)", g.play(0, 1), "1-0-2-3-2");
        check.same("play(1, 1)", g.play(1, 1), "1-3-2-0-2");
        check.same("play(0, 0)", g.play(0, 0), "0-2-3-2");
        check.same("play(0, 2) stuck", Maps.stuck().play(0, 2), "2-1");
        check.same("play(1, 2) stuck", Maps.stuck().play(1, 2), "2-1");
        check.same("play(0, 0) stuck", Maps.stuck().play(0, 0), "0");
        check.same("play(0, 3) at itself", Maps.lure().play(0, 3), "3-3");
        Roadgame line = new Roadgame();
        line.places(12);
        line.circle(1);
        check.same("play(0, 2) round", line.play(0, 2), "2-3-4-5-6-7-8-9-10-11-0-1-2");
        for (int wrong : new int[] {-1, 4, LOW, HIGH}) {
            check.outside(g, "play(0, " + wrong + ")", () -> g.play(0, wrong));
        }
        for (int wrong : new int[] {-1, 2, LOW, HIGH}) {
            check.illegal(g, "play(" + wrong + ", 0)", () -> g.play(wrong, 0));
        }
    }

    private static void choices() {
        Roadgame g = Maps.four();
        check.same("choices(0)", g.choices(0), 4);
        check.same("choices(1)", g.choices(1), 2);
        check.same("choices(0) of none", new Roadgame().choices(0), 1);
        check.same("choices(1) of none", new Roadgame().choices(1), 1);
        check.same("choices(0) stuck", Maps.stuck().choices(0), 2);
        check.same("choices(0) of thirty", Maps.thirty().choices(0), 15625);
        check.same("choices(1) of thirty", Maps.thirty().choices(1), 1);
        Roadgame most = new Roadgame();
        most.places(10);
        most.circle(0);
        most.circle(1);
        most.circle(2);
        check.same("choices(0) of the most", most.choices(0), 59049);
        for (int wrong : new int[] {-1, 2, LOW, HIGH}) {
            check.illegal(g, "choices(" + wrong + ")", () -> g.choices(wrong));
        }
    }

    private static void tried() {
        Roadgame g = Maps.four();
        int[][] due = {{15, 10}, {5, 0}, {15, 0}, {15, 0}};
        for (int game = 0; game <= 3; game++) {
            check.same("tried(" + game + ", 0)", g.tried(game, 0), due[game][0]);
            check.same("tried(" + game + ", 1)", g.tried(game, 1), due[game][1]);
        }
        Roadgame edge = new Roadgame();
        edge.circle(1);
        edge.circle(2);
        edge.goal(1);
        check.same("choices(0) at the edge", edge.choices(0), 64);
        check.same("tried(0, 0) at the edge", edge.tried(0, 0), 63);
        edge.way(0, 0);
        check.same("choices(0) past the edge", edge.choices(0), 96);
        long before = edge.digest();
        for (int game = 0; game <= 3; game++) {
            check.same("tried past the edge", edge.tried(game, 0), -9);
        }
        check.same("tried(0, 1) past the edge", edge.tried(0, 1), 1);
        check.same("a -9 of tried is not counted", edge.digest(), before);
        check.illegal(edge, "tried(4, 0) past the edge", () -> edge.tried(4, 0));
        for (int wrong : new int[] {-1, 4, LOW, HIGH}) {
            check.illegal(g, "tried(" + wrong + ", 0)", () -> g.tried(wrong, 0));
        }
        for (int wrong : new int[] {-1, 2, LOW, HIGH}) {
            check.illegal(g, "tried(0, " + wrong + ")", () -> g.tried(0, wrong));
        }
    }

    private static void withGoal() {
        Roadgame g = Maps.four();
        long before = g.digest();
        check.same("withGoal(0, 1, 0)", g.withGoal(0, 1, 0), 15);
        check.same("withGoal(0, 1, 3)", g.withGoal(0, 1, 3), 10);
        check.same("withGoal(1, 1, 2)", g.withGoal(1, 1, 2), 15);
        check.same("withGoal(1, 1, 0)", g.withGoal(1, 1, 0), 15);
        check.same("withGoal(1, 1, 1)", g.withGoal(1, 1, 1), 0);
        Roadgame l = Maps.lure();
        check.same("withGoal(1, 0, 3)", l.withGoal(1, 0, 3), 15);
        check.same("withGoal(0, 0, 3)", l.withGoal(0, 0, 3), 15);
        check.same("withGoal(1, 0, 0)", l.withGoal(1, 0, 0), 5);
        check.same("withGoal changes nothing", g.digest(), before);
        for (int wrong : new int[] {-1, 4, LOW, HIGH}) {
            check.outside(g, "withGoal(0, 0, " + wrong + ")", () -> g.withGoal(0, 0, wrong));
        }
        for (int wrong : new int[] {-1, 2, LOW, HIGH}) {
            check.illegal(g, "withGoal(" + wrong + ", 0, 0)", () -> g.withGoal(wrong, 0, 0));
            check.illegal(g, "withGoal(0, " + wrong + ", 0)", () -> g.withGoal(0, wrong, 0));
        }
    }

    private static void withWay() {
        Roadgame s = Maps.stuck();
        long before = s.digest();
        check.same("withWay(0, 0, 0, 2)", s.withWay(0, 0, 0, 2), 7);
        check.same("withWay(1, 1, 0, 2)", s.withWay(1, 1, 0, 2), 0);
        check.same("withWay(0, 0, 1, 1)", s.withWay(0, 0, 1, 1), 0);
        check.same("withWay(1, 1, 1, 1)", s.withWay(1, 1, 1, 1), 7);
        check.same("withWay(2, 0, 0, 2)", s.withWay(2, 0, 0, 2), 7);
        check.same("withWay(3, 0, 1, 1)", s.withWay(3, 0, 1, 1), 6);
        check.same("withWay(3, 1, 1, 0)", s.withWay(3, 1, 1, 0), 7);
        check.same("withWay(2, 0, 2, 1) there already", s.withWay(2, 0, 2, 1), 6);
        check.same("withWay changes nothing", s.digest(), before);
        Roadgame g = Maps.four();
        g.rank(0, 1);
        g.rank(3, 1);
        check.same("withWay(3, 1, 3, 3)", g.withWay(3, 1, 3, 3), 15);
        check.same("withWay(3, 0, 2, 2)", g.withWay(3, 0, 2, 2), 15);
        g.rank(2, 0);
        check.same("withWay(3, 0, 3, 3)", g.withWay(3, 0, 3, 3), 5);
        Roadgame full = new Roadgame();
        full.places(12);
        full.circle(1);
        full.circle(2);
        for (int p = 0; p < 6; p++) {
            full.way(0, p + 6);
        }
        full.goal(32);
        full.give(1, 1);
        check.same("told(1), full", full.told(1), 30);
        check.same("house(1), full", full.house(1), 0);
        full.lose(1, 2);
        full.lose(1, 3);
        full.way(1, 1);
        full.way(0, 3);
        check.same("told(1), full then", full.told(1), 30);
        check.same("rounds(1, 1), full", full.rounds(1, 1), -1);
        check.same("withWay(0, 1, 1, 5), full", full.withWay(0, 1, 1, 5) >> 1 & 1, 1);
        for (int wrong : new int[] {-1, 3, LOW, HIGH}) {
            check.outside(s, "withWay(0, 0, " + wrong + ", 0)", () -> s.withWay(0, 0, wrong, 0));
            check.outside(s, "withWay(0, 0, 0, " + wrong + ")", () -> s.withWay(0, 0, 0, wrong));
        }
        for (int wrong : new int[] {-1, 4, LOW, HIGH}) {
            check.illegal(s, "withWay(" + wrong + ", 0, 0, 0)", () -> s.withWay(wrong, 0, 0, 0));
        }
        for (int wrong : new int[] {-1, 2, LOW, HIGH}) {
            check.illegal(s, "withWay(0, " + wrong + ", 0, 0)", () -> s.withWay(0, wrong, 0, 0));
        }
    }

    private static void house() {
        Roadgame g = new Roadgame();
        g.places(6);
        g.circle(1);
        g.go(3);
        g.go(1);
        g.knock();
        g.follow(0);
        g.follow(1);
        check.same("house(0)", g.house(0), 4);
        check.same("house(1)", g.house(1), 2);
        check.same("house(2)", g.house(2), 1);
        for (int wrong : new int[] {-1, 3, LOW, HIGH}) {
            check.illegal(g, "house(" + wrong + ")", () -> g.house(wrong));
        }
    }

    private static void knock() {
        Roadgame g = Maps.four();
        String before = Check.stateOf(g);
        int done = g.house(0);
        check.same("knock()", g.knock(), 1);
        check.same("knock() again", g.knock(), 2);
        check.same("house(2)", g.house(2), 2);
        check.same("house(0)", g.house(0), done);
        check.same("knock leaves the map", Check.stateOf(g), before);
    }

    private static void isSound() {
        Roadgame[] games = {new Roadgame(), Maps.four(), Maps.stuck(), Maps.lure(), Maps.thirty()};
        for (Roadgame g : games) {
            check.holds("isSound()", g.isSound());
            g.change();
            check.holds("isSound() changed", g.isSound());
        }
    }

    private static void digest() {
        // Reckoned apart from the program: told() 2 0 0 0 0 0 2, each place 0 2 0 0 -1 0 -1 0,
        // side 0: 0 0 0 0 1 1, side 1: 3 3 3 3 0 1, house() 1 0 0, sound.
        Roadgame two = new Roadgame();
        two.places(2);
        long[] seen = {
            2, 0, 0, 0, 0, 0, 2, 0, 2, 0, 0, -1, 0, -1, 0, 0, 2, 0, 0, -1, 0, -1, 0,
            0, 0, 0, 0, 1, 1, 3, 3, 3, 3, 0, 1, 1, 0, 0, 1,
        };
        long due = 8031;
        for (long v : seen) {
            due = due * 31 + v;
        }
        check.same("digest() of two", two.digest(), due);
        Roadgame[] games = {Maps.four(), Maps.stuck(), Maps.lure(), Maps.thirty()};
        for (Roadgame g : games) {
            check.same("digest()", g.digest(), digestByCalls(g));
            g.knock();
            g.stand(1);
            g.go(1);
            check.same("digest() then", g.digest(), digestByCalls(g));
        }
    }

    private static long digestByCalls(Roadgame g) {
        long d = 8031;
        for (int what = 0; what <= 6; what++) {
            d = d * 31 + g.told(what);
        }
        for (int p = 0; p < g.told(0); p++) {
            for (int what = 0; what <= 3; what++) {
                d = d * 31 + g.ofPlace(p, what);
            }
            d = (d * 31 + g.rounds(0, p)) * 31 + g.rounds(1, p);
            d = (d * 31 + g.againRounds(0, p)) * 31 + g.againRounds(1, p);
        }
        for (int side = 0; side <= 1; side++) {
            d = (d * 31 + g.coming(side)) * 31 + g.keeping(side);
            d = (d * 31 + g.again(side)) * 31 + g.ranked(side);
            d = (d * 31 + g.falls(side)) * 31 + g.choices(side);
        }
        for (int what = 0; what <= 2; what++) {
            d = d * 31 + g.house(what);
        }
        return d * 31 + (g.isSound() ? 1 : 0);
    }

    private static void exceptionOrder() {
        Roadgame g = Maps.thirty();
        check.outside(g, "give(6, 2)", () -> g.give(6, 2));
        check.outside(g, "rank(-1, 3)", () -> g.rank(-1, 3));
        check.outside(g, "ofPlace(6, 5)", () -> g.ofPlace(6, 5));
        check.outside(g, "winner(5, 6)", () -> g.winner(5, 6));
        check.outside(g, "rounds(2, 6)", () -> g.rounds(2, 6));
        check.outside(g, "againRounds(2, 6)", () -> g.againRounds(2, 6));
        check.outside(g, "choice(3, 2, 6)", () -> g.choice(3, 2, 6));
        check.outside(g, "play(2, 6)", () -> g.play(2, 6));
        check.outside(g, "withGoal(2, 2, 6)", () -> g.withGoal(2, 2, 6));
        check.outside(g, "withWay(4, 2, 6, 0)", () -> g.withWay(4, 2, 6, 0));
        check.outside(g, "withWay(4, 2, 0, 6)", () -> g.withWay(4, 2, 0, 6));
    }
}
