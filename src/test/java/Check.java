/** Counts what is not as due, and says which call it was. */
final class Check {
    interface Call {
        void run();
    }

    private int wrong;
    private int looked;
    private String under = "";

    /** What is told from now on is told under these words. */
    void under(String words) {
        under = words;
    }

    int looked() {
        return looked;
    }

    void same(String call, long got, long due) {
        looked++;
        if (got != due) {
            tell(call + " answered " + got + ", due is " + due);
        }
    }

    void same(String call, String got, String due) {
        looked++;
        if (!due.equals(got)) {
            tell(call + " answered \"" + got + "\", due is \"" + due + "\"");
        }
    }

    void holds(String call, boolean got) {
        same(call, got ? 1 : 0, 1);
    }

    void fails(String call, boolean got) {
        same(call, got ? 1 : 0, 0);
    }

    /** The call must throw just this class, and leave all that can be asked as it was. */
    void refusedBy(Roadgame game, String call, Class<?> due, Call act) {
        looked++;
        String before = wholeOf(game);
        Class<?> thrown = null;
        try {
            act.run();
        } catch (RuntimeException e) {
            thrown = e.getClass();
        }
        if (thrown != due) {
            tell(call + " threw " + thrown + ", due is " + due);
        }
        same(call + " leaves all", wholeOf(game), before);
    }

    void outside(Roadgame game, String call, Call act) {
        refusedBy(game, call, IndexOutOfBoundsException.class, act);
    }

    void illegal(Roadgame game, String call, Call act) {
        refusedBy(game, call, IllegalArgumentException.class, act);
    }

    /** The call must answer -9, be counted by house(1) alone, and change nothing else. */
    void cannot(Roadgame game, String call, java.util.function.IntSupplier act) {
        String before = stateOf(game);
        int done = game.house(0);
        int refused = game.house(1);
        int knocks = game.house(2);
        same(call, act.getAsInt(), -9);
        same(call + " leaves the state", stateOf(game), before);
        same(call + " house(0)", game.house(0), done);
        same(call + " house(1)", game.house(1), refused + 1);
        same(call + " house(2)", game.house(2), knocks);
    }

    /** The call must answer this and be counted by house(0) alone. */
    void act(Roadgame game, String call, java.util.function.IntSupplier act, int due) {
        int done = game.house(0);
        int refused = game.house(1);
        int knocks = game.house(2);
        same(call, act.getAsInt(), due);
        same(call + " house(0)", game.house(0), done + 1);
        same(call + " house(1)", game.house(1), refused);
        same(call + " house(2)", game.house(2), knocks);
    }

    /** All that is told of the map and the stone, but not the counts of house(). */
    static String stateOf(Roadgame game) {
        StringBuilder text = new StringBuilder();
        for (int what = 0; what <= 6; what++) {
            text.append(game.told(what)).append(',');
        }
        for (int p = 0; p < game.told(0); p++) {
            for (int what = 0; what <= 4; what++) {
                text.append(game.ofPlace(p, what)).append(' ');
            }
            text.append(';');
        }
        return text.toString();
    }

    static String wholeOf(Roadgame game) {
        StringBuilder text = new StringBuilder(stateOf(game));
        for (int what = 0; what <= 2; what++) {
            text.append(game.house(what)).append(',');
        }
        return text.append(game.digest()).toString();
    }

    void end(String name) {
        System.out.println(name + ": " + looked + " looked at, " + wrong + " not as due");
        if (wrong != 0) {
            System.exit(1);
        }
    }

    private void tell(String text) {
        wrong++;
        if (wrong <= 40) {
            System.out.println(under.isEmpty() ? text : under + ": " + text);
        }
    }
}
