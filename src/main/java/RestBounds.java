import java.util.Arrays;

/** Encloses the odds of where a walk of chance ends by listing part of its walks. */
public final class RestBounds {
    public static final int BAD = -1, NO = -2, FULL = -3, NONE = -1;

    private static final int MAX_STATES = 20;
    private static final int MAX_OUTCOME = 7;
    private static final int ALL_OUTCOMES = 255;
    private static final int SIXTEEN = 16;
    private static final int MAX_ITEMS = 60;
    private static final int MAX_DEPTH = 40;
    private static final int MAX_SHARES = 2 * SIXTEEN;
    private static final int MAX_SAVES = 3;
    private static final int UNIT_BITS = 60;
    private static final int PART_BITS = 30;
    private static final long ALL_UNITS = 1L << UNIT_BITS;
    private static final int MAX_GROWTH = 500;
    private static final int MAX_TRIAL = 200;

    private static final int LEAST_DEPTH = 0, MOST_UNITS = 1, MADE_LAST = 2;
    private static final int TOLD_LAW = 10;

    private final Walk walk;
    private final Shares shares;
    private final Listing now;
    private final Listing trial;
    private final Listing[] kept;
    private int ordering;
    private boolean joining;

    public RestBounds() {
        walk = new Walk();
        shares = new Shares();
        now = new Listing();
        trial = new Listing();
        kept = new Listing[MAX_SAVES];
        for (int k = 0; k < MAX_SAVES; k++) {
            kept[k] = new Listing();
        }
        ordering = LEAST_DEPTH;
        joining = false;
    }

    public int state(int outcome) {
        if (outcome != NONE && !isOutcome(outcome)) {
            return BAD;
        }
        if (walk.size >= MAX_STATES) {
            return FULL;
        }
        forgetWhatRestsOnWalk();
        return walk.addState(outcome);
    }

    public int arrow(int s, int t, int k) {
        if (!walk.goesOn(s) || !walk.has(t) || k < 1 || k > SIXTEEN) {
            return BAD;
        }
        if (walk.total[s] + k > SIXTEEN) {
            return FULL;
        }
        forgetWhatRestsOnWalk();
        return walk.addSixteenths(s, t, k);
    }

    public int law(int s, int t) {
        if (!walk.goesOn(s) || (t != NONE && !walk.has(t))) {
            return BAD;
        }
        if (t != NONE && !walk.isProved(s, t)) {
            return NO;
        }
        walk.lawOf[s] = t;
        return 1;
    }

    public int order(int kind) {
        if (kind < LEAST_DEPTH || kind > MADE_LAST) {
            return BAD;
        }
        int before = ordering;
        ordering = kind;
        return before;
    }

    public int joined(boolean on) {
        int before = joining ? 1 : 0;
        joining = on;
        return before;
    }

    public int begin(int s) {
        if (!walk.has(s)) {
            return BAD;
        }
        walk.survey();
        if (!walk.isWholeFrom(s)) {
            return NO;
        }
        now.beginAt(s);
        return walk.reach[s];
    }

    public int grow(int n) {
        if (n < 0 || n > MAX_GROWTH) {
            return BAD;
        }
        if (!now.exists()) {
            return NO;
        }
        return goOnTimes(now, ordering, n);
    }

    public int until(int set, int w, int n) {
        if (!isSet(set) || w < 0 || w > UNIT_BITS || n < 0 || n > MAX_GROWTH) {
            return BAD;
        }
        if (!now.exists()) {
            return NO;
        }
        long narrow = 1L << (UNIT_BITS - w);
        for (int i = 0; i < n; i++) {
            if (width(now, set) <= narrow || !goOnOnce(now, ordering)) {
                return i;
            }
        }
        return n;
    }

    public long end(int set, int side) {
        if (!isSet(set) || !isSide(side) || !now.exists()) {
            return 0;
        }
        return side == 0 ? low(now, set) : high(now, set);
    }

    public int given(int a, int b, int side) {
        if (!isSet(a) || !isSet(b) || !isSide(side)) {
            return BAD;
        }
        if (!now.exists()) {
            return NO;
        }
        int both = a & b;
        int rest = b & ~a;
        if (side == 0) {
            return leastPart(low(now, both), high(now, rest));
        }
        return greatestPart(high(now, both), low(now, rest));
    }

    public int best(int set, int n) {
        if (!isSet(set) || n < 0 || n > MAX_TRIAL) {
            return BAD;
        }
        if (!now.exists()) {
            return NO;
        }
        int bestKind = LEAST_DEPTH;
        long bestWidth = trialWidth(LEAST_DEPTH, set, n);
        for (int kind = MOST_UNITS; kind <= MADE_LAST; kind++) {
            long tried = trialWidth(kind, set, n);
            if (tried < bestWidth) {
                bestWidth = tried;
                bestKind = kind;
            }
        }
        return bestKind;
    }

    public int item(int i, int what) {
        if (what < 0 || what > 1) {
            return BAD;
        }
        if (!now.exists()) {
            return NO;
        }
        if (!now.hasItem(i)) {
            return BAD;
        }
        return what == 0 ? now.place[i] : now.depth[i];
    }

    public long units(int i) {
        return now.exists() && now.hasItem(i) ? now.amount[i] : 0;
    }

    public long found(int outcome) {
        return now.exists() && isOutcome(outcome) ? now.ended[outcome] : 0;
    }

    public long rests(int s) {
        return now.exists() && walk.has(s) ? now.left[s] : 0;
    }

    public int save(int k) {
        if (!isSave(k)) {
            return BAD;
        }
        if (!now.exists()) {
            return NO;
        }
        kept[k].copyFrom(now);
        return now.size;
    }

    public int back(int k) {
        if (!isSave(k)) {
            return BAD;
        }
        if (!kept[k].exists()) {
            return NO;
        }
        now.copyFrom(kept[k]);
        return now.size;
    }

    public int told(int what) {
        switch (what) {
            case 0:
                return walk.size;
            case 1:
                return now.size;
            case 2:
                return now.steps;
            case 3:
                return now.start;
            case 4:
                return ordering;
            default:
                return what >= TOLD_LAW && walk.has(what - TOLD_LAW) ? walk.lawOf[what - TOLD_LAW] : BAD;
        }
    }

    private static boolean isOutcome(int outcome) {
        return outcome >= 0 && outcome <= MAX_OUTCOME;
    }

    private static boolean isSet(int set) {
        return set >= 0 && set <= ALL_OUTCOMES;
    }

    private static boolean isSide(int side) {
        return side == 0 || side == 1;
    }

    private static boolean isSave(int k) {
        return k >= 0 && k < MAX_SAVES;
    }

    private void forgetWhatRestsOnWalk() {
        now.forget();
        for (int k = 0; k < MAX_SAVES; k++) {
            kept[k].forget();
        }
        walk.forgetLaws();
    }

    private int goOnTimes(Listing listing, int kind, int n) {
        for (int i = 0; i < n; i++) {
            if (!goOnOnce(listing, kind)) {
                return i;
            }
        }
        return n;
    }

    private boolean goOnOnce(Listing listing, int kind) {
        int i = listing.nextBy(kind);
        if (!listing.hasItem(i)) {
            return false;
        }
        int s = listing.place[i];
        long m = listing.amount[i];
        if (!walk.goesOn(s)) {
            listing.takeOut(i);
            listing.addEnded(walk.outcomeOf[s], m);
        } else if (listing.depth[i] >= MAX_DEPTH) {
            listing.takeOut(i);
            listing.addLeft(s, m);
        } else {
            shares.divide(walk, s, listing.depth[i], m);
            if (listing.size - 1 + listing.countNew(shares, joining) > MAX_ITEMS) {
                return false;
            }
            listing.takeOut(i);
            listing.putShares(shares, joining);
            listing.addLeft(s, m - shares.sum);
        }
        listing.steps++;
        return true;
    }

    private long low(Listing listing, int set) {
        long sum = listing.endedIn(set);
        for (int s = 0; s < walk.size; s++) {
            if (walk.endsWithin(s, set)) {
                sum += listing.held[s];
            }
        }
        return sum;
    }

    private long high(Listing listing, int set) {
        long sum = listing.endedIn(set);
        for (int s = 0; s < walk.size; s++) {
            if ((walk.reach[s] & set) != 0) {
                sum += listing.held[s];
            }
        }
        return sum;
    }

    private long width(Listing listing, int set) {
        return high(listing, set) - low(listing, set);
    }

    private long trialWidth(int kind, int set, int n) {
        trial.beginAt(now.start);
        goOnTimes(trial, kind, n);
        return width(trial, set);
    }

    private static int leastPart(long share, long others) {
        long all = share + others;
        return all <= 0 ? 0 : partOf(share, all, false);
    }

    private static int greatestPart(long share, long others) {
        long all = share + others;
        return all <= 0 ? 1 << PART_BITS : partOf(share, all, true);
    }

    /** Divides bit by bit, because share * 2^30 would not fit into a long. */
    private static int partOf(long share, long all, boolean up) {
        if (share >= all) {
            return 1 << PART_BITS;
        }
        int part = 0;
        long rest = share;
        for (int bit = 0; bit < PART_BITS; bit++) {
            rest <<= 1;
            part <<= 1;
            if (rest >= all) {
                rest -= all;
                part++;
            }
        }
        return up && rest > 0 ? part + 1 : part;
    }

    /** The states with their arrows and laws. */
    private static final class Walk {
        int size;
        final int[] outcomeOf = new int[MAX_STATES];
        final int[] lawOf = new int[MAX_STATES];
        final int[] total = new int[MAX_STATES];
        final int[] arrows = new int[MAX_STATES];
        // An arrow has a sixteenth at least, so sixteen of them are the most a state can have.
        final int[][] target = new int[MAX_STATES][SIXTEEN];
        final int[][] weight = new int[MAX_STATES][SIXTEEN];
        // The rows below are as survey() left them; they are read only while there is a listing,
        // and what changes states or arrows takes every listing away.
        final int[] comesTo = new int[MAX_STATES];
        final int[] reach = new int[MAX_STATES];
        final boolean[] sure = new boolean[MAX_STATES];

        boolean has(int s) {
            return s >= 0 && s < size;
        }

        boolean goesOn(int s) {
            return has(s) && outcomeOf[s] == NONE;
        }

        int addState(int outcome) {
            outcomeOf[size] = outcome;
            lawOf[size] = NONE;
            size++;
            return size - 1;
        }

        int addSixteenths(int s, int t, int k) {
            int i = arrowTo(s, t);
            if (i == NONE && arrows[s] < SIXTEEN) {
                i = arrows[s];
                target[s][i] = t;
                arrows[s]++;
            }
            if (i != NONE) {
                weight[s][i] += k;
                total[s] += k;
            }
            return total[s];
        }

        int arrowTo(int s, int t) {
            for (int i = 0; i < arrows[s]; i++) {
                if (target[s][i] == t) {
                    return i;
                }
            }
            return NONE;
        }

        int sixteenthsTo(int s, int t) {
            int i = arrowTo(s, t);
            return i == NONE ? 0 : weight[s][i];
        }

        boolean isWhole(int s) {
            return total[s] == SIXTEEN;
        }

        boolean isProved(int s, int t) {
            return s == t ? isLoop(s) : isRing(s, t);
        }

        boolean isLoop(int s) {
            int a = sixteenthsTo(s, s);
            return isWhole(s) && a > 0 && a < SIXTEEN;
        }

        boolean isRing(int s, int r) {
            int a = sixteenthsTo(s, r);
            int b = sixteenthsTo(r, s);
            return isWhole(s) && isWhole(r) && a > 0 && b > 0 && a * b < SIXTEEN * SIXTEEN
                && sixteenthsTo(s, s) == 0 && sixteenthsTo(r, r) == 0;
        }

        void forgetLaws() {
            Arrays.fill(lawOf, NONE);
        }

        void survey() {
            findComings();
            for (int s = 0; s < size; s++) {
                reach[s] = findReach(s);
            }
            for (int s = 0; s < size; s++) {
                sure[s] = findSure(s);
            }
        }

        void findComings() {
            for (int s = 0; s < size; s++) {
                comesTo[s] = 1 << s;
                for (int i = 0; i < arrows[s]; i++) {
                    comesTo[s] |= 1 << target[s][i];
                }
            }
            for (int via = 0; via < size; via++) {
                for (int s = 0; s < size; s++) {
                    if (comes(s, via)) {
                        comesTo[s] |= comesTo[via];
                    }
                }
            }
        }

        boolean comes(int s, int t) {
            return (comesTo[s] >> t & 1) == 1;
        }

        int findReach(int s) {
            int outcomes = 0;
            for (int t = 0; t < size; t++) {
                if (comes(s, t) && !goesOn(t)) {
                    outcomes |= 1 << outcomeOf[t];
                }
            }
            return outcomes;
        }

        boolean findSure(int s) {
            for (int t = 0; t < size; t++) {
                if (comes(s, t) && reach[t] == 0) {
                    return false;
                }
            }
            return true;
        }

        boolean isWholeFrom(int s) {
            for (int t = 0; t < size; t++) {
                if (comes(s, t) && goesOn(t) && !isWhole(t)) {
                    return false;
                }
            }
            return true;
        }

        boolean endsWithin(int s, int set) {
            return sure[s] && (reach[s] & ~set) == 0;
        }
    }

    /** What one item is shared into; one object serves for every sharing. */
    private static final class Shares {
        int size;
        long sum;
        long shared;
        int divisor;
        final int[] place = new int[MAX_SHARES];
        final int[] depth = new int[MAX_SHARES];
        final long[] amount = new long[MAX_SHARES];

        void divide(Walk walk, int s, int d, long m) {
            size = 0;
            sum = 0;
            shared = m;
            int by = walk.lawOf[s];
            if (by == NONE) {
                divisor = SIXTEEN;
                spread(walk, s, NONE, d + 1, 1);
            } else if (by == s) {
                divisor = SIXTEEN - walk.sixteenthsTo(s, s);
                spread(walk, s, s, d + 1, 1);
            } else {
                int a = walk.sixteenthsTo(s, by);
                divisor = SIXTEEN * SIXTEEN - a * walk.sixteenthsTo(by, s);
                spread(walk, s, by, d + 1, SIXTEEN);
                spread(walk, by, s, Math.min(MAX_DEPTH, d + 2), a);
            }
        }

        void spread(Walk walk, int from, int except, int d, int factor) {
            for (int i = 0; i < walk.arrows[from]; i++) {
                if (walk.target[from][i] != except) {
                    add(walk.target[from][i], d, portion(factor * walk.weight[from][i]));
                }
            }
        }

        /** FLOOR(shared w / divisor), without the product, which would not fit into a long. */
        long portion(int w) {
            if (divisor < 1) {
                return 0;
            }
            return shared / divisor * w + shared % divisor * w / divisor;
        }

        void add(int s, int d, long m) {
            if (m < 1 || size >= MAX_SHARES) {
                return;
            }
            place[size] = s;
            depth[size] = d;
            amount[size] = m;
            size++;
            sum += m;
        }

        boolean isRepeated(int j) {
            for (int i = 0; i < j; i++) {
                if (place[i] == place[j] && depth[i] == depth[j]) {
                    return true;
                }
            }
            return false;
        }
    }

    /** Where the units are; it is none while it has no start. */
    private static final class Listing {
        int start = NONE;
        int steps;
        int size;
        final int[] place = new int[MAX_ITEMS];
        final int[] depth = new int[MAX_ITEMS];
        final long[] amount = new long[MAX_ITEMS];
        final long[] ended = new long[MAX_OUTCOME + 1];
        final long[] left = new long[MAX_STATES];
        // Units of each state, open or rests, kept together so that bounds need not go through the items.
        final long[] held = new long[MAX_STATES];

        boolean exists() {
            return start != NONE;
        }

        boolean hasItem(int i) {
            return i >= 0 && i < size;
        }

        void forget() {
            start = NONE;
            steps = 0;
            size = 0;
        }

        void beginAt(int s) {
            start = s;
            steps = 0;
            size = 0;
            Arrays.fill(ended, 0);
            Arrays.fill(left, 0);
            Arrays.fill(held, 0);
            addItem(s, 0, ALL_UNITS);
        }

        void copyFrom(Listing other) {
            start = other.start;
            steps = other.steps;
            size = other.size;
            System.arraycopy(other.place, 0, place, 0, MAX_ITEMS);
            System.arraycopy(other.depth, 0, depth, 0, MAX_ITEMS);
            System.arraycopy(other.amount, 0, amount, 0, MAX_ITEMS);
            System.arraycopy(other.ended, 0, ended, 0, MAX_OUTCOME + 1);
            System.arraycopy(other.left, 0, left, 0, MAX_STATES);
            System.arraycopy(other.held, 0, held, 0, MAX_STATES);
        }

        int nextBy(int kind) {
            if (size == 0) {
                return NONE;
            }
            if (kind == MADE_LAST) {
                return size - 1;
            }
            int next = 0;
            for (int i = 1; i < size; i++) {
                if (kind == MOST_UNITS ? amount[i] > amount[next] : depth[i] < depth[next]) {
                    next = i;
                }
            }
            return next;
        }

        void addItem(int s, int d, long m) {
            if (size >= MAX_ITEMS) {
                return;
            }
            place[size] = s;
            depth[size] = d;
            amount[size] = m;
            size++;
            held[s] += m;
        }

        void takeOut(int i) {
            held[place[i]] -= amount[i];
            int behind = size - i - 1;
            System.arraycopy(place, i + 1, place, i, behind);
            System.arraycopy(depth, i + 1, depth, i, behind);
            System.arraycopy(amount, i + 1, amount, i, behind);
            size--;
        }

        void addEnded(int outcome, long m) {
            ended[outcome] += m;
        }

        void addLeft(int s, long m) {
            left[s] += m;
            held[s] += m;
        }

        int itemAt(int s, int d) {
            for (int i = 0; i < size; i++) {
                if (place[i] == s && depth[i] == d) {
                    return i;
                }
            }
            return NONE;
        }

        int countNew(Shares shares, boolean joining) {
            if (!joining) {
                return shares.size;
            }
            int count = 0;
            for (int j = 0; j < shares.size; j++) {
                if (itemAt(shares.place[j], shares.depth[j]) == NONE && !shares.isRepeated(j)) {
                    count++;
                }
            }
            return count;
        }

        void putShares(Shares shares, boolean joining) {
            for (int j = 0; j < shares.size; j++) {
                int s = shares.place[j];
                int i = joining ? itemAt(s, shares.depth[j]) : NONE;
                if (i == NONE) {
                    addItem(s, shares.depth[j], shares.amount[j]);
                } else {
                    amount[i] += shares.amount[j];
                    held[s] += shares.amount[j];
                }
            }
        }

        long endedIn(int set) {
            long sum = 0;
            for (int outcome = 0; outcome <= MAX_OUTCOME; outcome++) {
                if ((set >> outcome & 1) == 1) {
                    sum += ended[outcome];
                }
            }
            return sum;
        }
    }
}
