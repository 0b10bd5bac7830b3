/** Games of two sides on a small map of places and ways. */
public final class Roadgame {
    private static final int LEAST_PLACES = 2;
    private static final int MOST_PLACES = 12;
    private static final int FIRST_PLACES = 6;
    private static final int MOST_WAYS = 30;
    private static final int MOST_STEP = 11;
    private static final int MOST_SEED = 9999;
    private static final int MOST_RANK = 2;
    private static final int MOST_TRIED = 64;
    private static final int REFUSED = -9;
    private static final int NONE = -1;
    private static final int COMING = 0;
    private static final int KEEPING = 1;
    private static final int AGAIN = 2;
    private static final int RANKED = 3;
    private static final long DIGEST_START = 8031L;
    private static final long DIGEST_FACTOR = 31L;

    private final Chart map;
    /** What would be is laid out here, so that the map itself stays as it is. */
    private final Chart trial;
    private int stone;
    private int gone;
    private int done;
    private int refused;
    private int knocks;

    public Roadgame() {
        map = new Chart();
        trial = new Chart();
    }

    public int places(int many) throws IllegalArgumentException {
        checkBetween(many, LEAST_PLACES, MOST_PLACES);
        int before = map.size;
        map.clear(many);
        stone = 0;
        gone = 0;
        done++;
        return before;
    }

    public int give(int place, int side) throws IndexOutOfBoundsException, IllegalArgumentException {
        checkPlace(place);
        checkSide(side);
        int before = map.sideOf(place);
        map.setSide(place, side);
        done++;
        return before;
    }

    public int rank(int place, int rank) throws IndexOutOfBoundsException, IllegalArgumentException {
        checkPlace(place);
        checkBetween(rank, 0, MOST_RANK);
        int before = map.rankOf(place);
        map.setRank(place, rank);
        done++;
        return before;
    }

    public int goal(int set) throws IllegalArgumentException {
        checkSet(set);
        int before = map.goal;
        map.goal = set;
        done++;
        return before;
    }

    public int way(int from, int to) throws IndexOutOfBoundsException {
        checkPlace(from);
        checkPlace(to);
        boolean there = has(map.waysFrom(from), to);
        if (!there && map.countWays() >= MOST_WAYS) {
            return refuse();
        }
        map.putWay(from, to);
        done++;
        return there ? 0 : 1;
    }

    public int lose(int from, int to) throws IndexOutOfBoundsException {
        checkPlace(from);
        checkPlace(to);
        boolean there = has(map.waysFrom(from), to);
        map.takeWay(from, to);
        done++;
        return there ? 1 : 0;
    }

    public int circle(int step) throws IllegalArgumentException {
        checkBetween(step, 0, MOST_STEP);
        int before = map.countWays();
        trial.copyFrom(map);
        for (int p = 0; p < trial.size; p++) {
            trial.putWay(p, trial.wrapped(p + step));
        }
        int after = trial.countWays();
        if (after > MOST_WAYS) {
            return refuse();
        }
        map.copyFrom(trial);
        done++;
        return after - before;
    }

    public int strew(int seed) throws IllegalArgumentException {
        checkBetween(seed, 0, MOST_SEED);
        map.clear(map.size);
        for (int p = 0; p < map.size; p++) {
            int x = seed + 7 * p + p * p;
            map.setSide(p, x % 2);
            map.setRank(p, x % 3);
            if (x % 5 == 0) {
                map.goal |= 1 << p;
            }
            map.putWay(p, map.wrapped(x));
            map.putWay(p, map.wrapped(3 * x + p));
        }
        done++;
        return map.countWays();
    }

    public int change() {
        map.second = map.all() & ~map.second;
        done++;
        return Integer.bitCount(map.placesOf(0));
    }

    public int stand(int place) throws IndexOutOfBoundsException {
        checkPlace(place);
        int before = stone;
        stone = place;
        gone = 0;
        done++;
        return before;
    }

    public int go(int to) throws IndexOutOfBoundsException {
        checkPlace(to);
        if (!has(map.waysFrom(stone), to)) {
            return refuse();
        }
        moveStone(to);
        return gone;
    }

    public int follow(int game) throws IllegalArgumentException {
        checkBetween(game, COMING, AGAIN);
        int to = map.pick(game, map.sideOf(stone), stone);
        if (to == NONE) {
            return refuse();
        }
        moveStone(to);
        return stone;
    }

    public int told(int what) throws IllegalArgumentException {
        checkBetween(what, 0, 6);
        switch (what) {
            case 0:
                return map.size;
            case 1:
                return map.countWays();
            case 2:
                return map.goal;
            case 3:
                return map.placesOf(1);
            case 4:
                return stone;
            case 5:
                return gone;
            default:
                return map.countWithoutWays();
        }
    }

    public int ofPlace(int place, int what) throws IndexOutOfBoundsException, IllegalArgumentException {
        checkPlace(place);
        checkBetween(what, 0, 4);
        switch (what) {
            case 0:
                return map.sideOf(place);
            case 1:
                return map.rankOf(place);
            case 2:
                return has(map.goal, place) ? 1 : 0;
            case 3:
                return map.waysFrom(place);
            default:
                return map.waysInto(place);
        }
    }

    public boolean isWay(int from, int to) throws IndexOutOfBoundsException {
        checkPlace(from);
        checkPlace(to);
        return has(map.waysFrom(from), to);
    }

    public String ways(int place) throws IndexOutOfBoundsException {
        checkPlace(place);
        int set = map.waysFrom(place);
        StringBuilder text = new StringBuilder();
        for (int p = 0; p < map.size; p++) {
            if (has(set, p)) {
                if (text.length() > 0) {
                    text.append(' ');
                }
                text.append(p);
            }
        }
        return text.toString();
    }

    public int ahead(int set, int side) throws IllegalArgumentException {
        checkSet(set);
        checkSide(side);
        return map.seenBefore(set, side);
    }

    public int coming(int side) throws IllegalArgumentException {
        checkSide(side);
        return map.won(COMING, side);
    }

    public int keeping(int side) throws IllegalArgumentException {
        checkSide(side);
        return map.won(KEEPING, side);
    }

    public int again(int side) throws IllegalArgumentException {
        checkSide(side);
        return map.won(AGAIN, side);
    }

    public int ranked(int side) throws IllegalArgumentException {
        checkSide(side);
        return map.won(RANKED, side);
    }

    public int winner(int game, int place) throws IndexOutOfBoundsException, IllegalArgumentException {
        checkPlace(place);
        checkBetween(game, 0, 4);
        switch (game) {
            case 0:
                return has(map.won(COMING, 0), place) ? 0 : 1;
            case 1:
                return has(map.won(COMING, 1), place) ? 1 : 0;
            case 2:
                return has(map.won(AGAIN, 0), place) ? 0 : 1;
            case 3:
                return has(map.won(AGAIN, 1), place) ? 1 : 0;
            default:
                return has(map.won(RANKED, 0), place) ? 0 : 1;
        }
    }

    public int rounds(int side, int place) throws IndexOutOfBoundsException, IllegalArgumentException {
        checkPlace(place);
        checkSide(side);
        return map.roundsTo(map.goal, side, place);
    }

    public int againRounds(int side, int place) throws IndexOutOfBoundsException, IllegalArgumentException {
        checkPlace(place);
        checkSide(side);
        return map.roundsTo(map.goal & map.won(AGAIN, side), side, place);
    }

    public int falls(int side) throws IllegalArgumentException {
        checkSide(side);
        int left = map.all();
        int count = 0;
        for (int k = 0; k < MOST_PLACES; k++) {
            int next = map.reaching(map.goal & map.seenBefore(left, side), side);
            if (next == left) {
                break;
            }
            left = next;
            count++;
        }
        return count;
    }

    public int choice(int game, int side, int place) throws IndexOutOfBoundsException, IllegalArgumentException {
        checkPlace(place);
        checkBetween(game, COMING, AGAIN);
        checkSide(side);
        return map.pick(game, side, place);
    }

    public boolean isSure(int game, int side) throws IllegalArgumentException {
        checkBetween(game, COMING, AGAIN);
        checkSide(side);
        return holdsByChoices(game, side);
    }

    public String play(int side, int place) throws IndexOutOfBoundsException, IllegalArgumentException {
        checkPlace(place);
        checkSide(side);
        StringBuilder text = new StringBuilder();
        int been = 0;
        int at = place;
        text.append(at);
        for (int k = 0; k < MOST_PLACES; k++) {
            if (has(been, at) || map.waysFrom(at) == 0) {
                break;
            }
            been |= 1 << at;
            at = playedFrom(side, at);
            text.append('-').append(at);
        }
        return text.toString();
    }

    public int choices(int side) throws IllegalArgumentException {
        checkSide(side);
        return map.countChoices(side);
    }

    public int tried(int game, int side) throws IllegalArgumentException {
        checkBetween(game, COMING, RANKED);
        checkSide(side);
        int many = map.countChoices(side);
        if (many > MOST_TRIED) {
            return REFUSED;
        }
        int found = 0;
        for (int number = 0; number < many; number++) {
            layChoices(side, number);
            found |= trial.won(game, side);
        }
        return found;
    }

    public int withGoal(int game, int side, int place) throws IndexOutOfBoundsException, IllegalArgumentException {
        checkPlace(place);
        checkBetween(game, 0, 1);
        checkSide(side);
        trial.copyFrom(map);
        trial.goal |= 1 << place;
        return trial.won(game == 0 ? COMING : AGAIN, side);
    }

    public int withWay(int game, int side, int from, int to) throws IndexOutOfBoundsException, IllegalArgumentException {
        checkPlace(from);
        checkPlace(to);
        checkBetween(game, COMING, RANKED);
        checkSide(side);
        trial.copyFrom(map);
        trial.putWay(from, to);
        return trial.won(game, side);
    }

    public int house(int what) throws IllegalArgumentException {
        checkBetween(what, 0, 2);
        switch (what) {
            case 0:
                return done;
            case 1:
                return refused;
            default:
                return knocks;
        }
    }

    public int knock() {
        knocks++;
        return knocks;
    }

    public boolean isSound() {
        for (int side = 0; side <= 1; side++) {
            if (!isComingSound(side) || !isAgainSound(side)) {
                return false;
            }
            for (int game = COMING; game <= AGAIN; game++) {
                if (!holdsByChoices(game, side)) {
                    return false;
                }
            }
        }
        return isRankedSound();
    }

    public long digest() {
        long d = DIGEST_START;
        for (int what = 0; what <= 6; what++) {
            d = d * DIGEST_FACTOR + told(what);
        }
        for (int p = 0; p < map.size; p++) {
            for (int what = 0; what <= 3; what++) {
                d = d * DIGEST_FACTOR + ofPlace(p, what);
            }
            d = d * DIGEST_FACTOR + rounds(0, p);
            d = d * DIGEST_FACTOR + rounds(1, p);
            d = d * DIGEST_FACTOR + againRounds(0, p);
            d = d * DIGEST_FACTOR + againRounds(1, p);
        }
        for (int side = 0; side <= 1; side++) {
            d = d * DIGEST_FACTOR + coming(side);
            d = d * DIGEST_FACTOR + keeping(side);
            d = d * DIGEST_FACTOR + again(side);
            d = d * DIGEST_FACTOR + ranked(side);
            d = d * DIGEST_FACTOR + falls(side);
            d = d * DIGEST_FACTOR + choices(side);
        }
        for (int what = 0; what <= 2; what++) {
            d = d * DIGEST_FACTOR + house(what);
        }
        return d * DIGEST_FACTOR + (isSound() ? 1 : 0);
    }

    private void checkPlace(int place) throws IndexOutOfBoundsException {
        if (place < 0 || place >= map.size) {
            throw new IndexOutOfBoundsException("no such place");
        }
    }

    private void checkSet(int set) throws IllegalArgumentException {
        checkBetween(set, 0, map.all());
    }

    private static void checkSide(int side) throws IllegalArgumentException {
        checkBetween(side, 0, 1);
    }

    private static void checkBetween(int number, int least, int most) throws IllegalArgumentException {
        if (number < least || number > most) {
            throw new IllegalArgumentException("out of what is let");
        }
    }

    private int refuse() {
        refused++;
        return REFUSED;
    }

    private void moveStone(int to) {
        stone = to;
        gone++;
        done++;
    }

    private int playedFrom(int side, int at) {
        int owner = map.sideOf(at);
        int to = map.pick(owner == side ? COMING : KEEPING, owner, at);
        return to == NONE ? least(map.waysFrom(at)) : to;
    }

    /** With the other ways of the side taken out, what it still wins is what its told choices win. */
    private boolean holdsByChoices(int game, int side) {
        trial.copyFrom(map);
        int won = map.won(game, side);
        for (int p = 0; p < map.size; p++) {
            int to = map.pickWithin(game, side, p, won);
            if (to != NONE) {
                trial.setWays(p, 1 << to);
            }
        }
        return (won & ~trial.won(game, side)) == 0;
    }

    /** The number is read digit by digit, a digit for each place of the side that has ways. */
    private void layChoices(int side, int number) {
        trial.copyFrom(map);
        int left = number;
        for (int p = 0; p < map.size; p++) {
            int set = map.waysFrom(p);
            int many = Integer.bitCount(set);
            if (many > 0 && map.sideOf(p) == side) {
                trial.setWays(p, 1 << member(set, left % many));
                left = left / many;
            }
        }
    }

    private boolean isComingSound(int side) {
        int coming = map.won(COMING, side);
        int kept = map.won(KEEPING, 1 - side);
        if ((coming & kept) != 0 || (coming | kept) != map.all()) {
            return false;
        }
        int within = map.seenBefore(coming, side) | map.goal;
        return (within & ~coming) == 0;
    }

    private boolean isAgainSound(int side) {
        int again = map.won(AGAIN, side);
        if ((again & ~map.won(COMING, side)) != 0) {
            return false;
        }
        return (map.seenBefore(again, side) & ~again) == 0;
    }

    private boolean isRankedSound() {
        int first = map.won(RANKED, 0);
        int second = map.won(RANKED, 1);
        if ((first & second) != 0 || (first | second) != map.all()) {
            return false;
        }
        for (int p = 0; p < map.size; p++) {
            int lostBy = map.sideOf(p) == 0 ? first : second;
            if (map.waysFrom(p) == 0 && has(lostBy, p)) {
                return false;
            }
        }
        return true;
    }

    private static boolean has(int set, int place) {
        return (set >> place & 1) != 0;
    }

    private static int least(int set) {
        return member(set, 0);
    }

    private static int member(int set, int before) {
        int left = before;
        for (int p = 0; p < MOST_PLACES; p++) {
            if (has(set, p)) {
                if (left == 0) {
                    return p;
                }
                left--;
            }
        }
        return NONE;
    }

    /** A map, and what can be won on it. */
    private static final class Chart {
        private final int[] next;
        private int size;
        private int second;
        private int goal;
        /** Places of neither set have rank 2. */
        private int rankZero;
        private int rankOne;

        Chart() {
            next = new int[MOST_PLACES];
            size = FIRST_PLACES;
        }

        void clear(int many) {
            size = many;
            second = 0;
            goal = 0;
            rankZero = 0;
            rankOne = 0;
            for (int p = 0; p < next.length; p++) {
                next[p] = 0;
            }
        }

        void copyFrom(Chart other) {
            if (other == null) {
                return;
            }
            size = other.size;
            second = other.second;
            goal = other.goal;
            rankZero = other.rankZero;
            rankOne = other.rankOne;
            for (int p = 0; p < next.length; p++) {
                next[p] = other.waysFrom(p);
            }
        }

        int all() {
            return (1 << size) - 1;
        }

        int wrapped(int number) {
            return size > 0 ? number % size : 0;
        }

        int sideOf(int place) {
            return second >> place & 1;
        }

        int placesOf(int side) {
            return side == 1 ? second : all() & ~second;
        }

        void setSide(int place, int side) {
            second = second & ~(1 << place) | side << place;
        }

        int rankOf(int place) {
            if (has(rankZero, place)) {
                return 0;
            }
            return has(rankOne, place) ? 1 : 2;
        }

        void setRank(int place, int number) {
            int bit = 1 << place;
            rankZero = number == 0 ? rankZero | bit : rankZero & ~bit;
            rankOne = number == 1 ? rankOne | bit : rankOne & ~bit;
        }

        int waysFrom(int place) {
            return place >= 0 && place < next.length ? next[place] : 0;
        }

        int waysInto(int place) {
            int found = 0;
            for (int p = 0; p < size; p++) {
                if (has(waysFrom(p), place)) {
                    found |= 1 << p;
                }
            }
            return found;
        }

        void setWays(int place, int set) {
            if (place >= 0 && place < next.length) {
                next[place] = set;
            }
        }

        void putWay(int from, int to) {
            setWays(from, waysFrom(from) | 1 << to);
        }

        void takeWay(int from, int to) {
            setWays(from, waysFrom(from) & ~(1 << to));
        }

        int countWays() {
            int count = 0;
            for (int p = 0; p < size; p++) {
                count += Integer.bitCount(waysFrom(p));
            }
            return count;
        }

        int countWithoutWays() {
            int count = 0;
            for (int p = 0; p < size; p++) {
                if (waysFrom(p) == 0) {
                    count++;
                }
            }
            return count;
        }

        int countChoices(int side) {
            int product = 1;
            for (int p = 0; p < size; p++) {
                int many = Integer.bitCount(waysFrom(p));
                if (many > 0 && sideOf(p) == side) {
                    product *= many;
                }
            }
            return product;
        }

        /** At a place of the other side with no way nothing else can come next, so it is in for each set. */
        int seenBefore(int set, int side) {
            int found = 0;
            for (int p = 0; p < size && p < next.length; p++) {
                boolean own = (second >> p & 1) == side;
                boolean sure = own ? (next[p] & set) != 0 : (next[p] & ~set) == 0;
                if (sure) {
                    found |= 1 << p;
                }
            }
            return found;
        }

        /** Before no place at all only those are seen at which the other side is stuck: they count as reached. */
        int reaching(int target, int side) {
            int reached = target | seenBefore(0, side);
            for (int k = 0; k < MOST_PLACES; k++) {
                int more = reached | seenBefore(reached, side);
                if (more == reached) {
                    break;
                }
                reached = more;
            }
            return reached;
        }

        int roundsTo(int target, int side, int place) {
            int reached = target | seenBefore(0, side);
            for (int k = 0; k < MOST_PLACES; k++) {
                if (has(reached, place)) {
                    return k;
                }
                reached |= seenBefore(reached, side);
            }
            return NONE;
        }

        /** A place of its own has no way to one with still fewer rounds, so all that have fewer will do. */
        private int nearer(int target, int side, int place) {
            int reached = target | seenBefore(0, side);
            if (has(reached, place)) {
                return 0;
            }
            for (int k = 0; k < MOST_PLACES; k++) {
                int more = reached | seenBefore(reached, side);
                if (has(more, place)) {
                    return reached;
                }
                reached = more;
            }
            return 0;
        }

        private int wonAgain(int side) {
            int left = all();
            for (int k = 0; k < MOST_PLACES; k++) {
                int still = reaching(goal & seenBefore(left, side), side);
                if (still == left) {
                    break;
                }
                left = still;
            }
            return left;
        }

        /**
         * Side 0 wins where rank 0 comes without end, or where it gets away from rank 1 in the end and
         * holds rank 2: a greatest set round a least one round a greatest one, a rank each.
         */
        private int wonRankedByZero() {
            int outer = all();
            for (int k = 0; k < MOST_PLACES; k++) {
                int safe = rankZero & seenBefore(outer, 0);
                int grown = 0;
                for (int j = 0; j < MOST_PLACES; j++) {
                    int more = holdingRankTwo(safe | rankOne & seenBefore(grown, 0));
                    if (more == grown) {
                        break;
                    }
                    grown = more;
                }
                if (grown == outer) {
                    break;
                }
                outer = grown;
            }
            return outer;
        }

        private int holdingRankTwo(int safe) {
            int rankTwo = all() & ~(rankZero | rankOne);
            int held = all();
            for (int k = 0; k < MOST_PLACES; k++) {
                int still = safe | rankTwo & seenBefore(held, 0);
                if (still == held) {
                    break;
                }
                held = still;
            }
            return held;
        }

        int won(int game, int side) {
            switch (game) {
                case COMING:
                    return reaching(goal, side);
                case KEEPING:
                    return all() & ~reaching(goal, 1 - side);
                case AGAIN:
                    return wonAgain(side);
                default:
                    return side == 0 ? wonRankedByZero() : all() & ~wonRankedByZero();
            }
        }

        int pick(int game, int side, int place) {
            return pickWithin(game, side, place, won(game, side));
        }

        /** The set is won(game, side), handed in so that it is reckoned once for all places. */
        int pickWithin(int game, int side, int place, int wonPlaces) {
            if (!has(wonPlaces & placesOf(side), place)) {
                return NONE;
            }
            int to = waysFrom(place);
            if (game == KEEPING || game == AGAIN && has(goal, place)) {
                return least(to & wonPlaces);
            }
            return least(to & nearer(goal & wonPlaces, side, place));
        }
    }
}
