import java.math.BigInteger;
import java.util.ArrayList;
import java.util.HashSet;
import java.util.List;
import java.util.Random;
import java.util.Set;

// Runs of chance, always the same ones, on RestBounds and on a second, plain writing of the document.
public final class ModelTest {
    private static final int RUNS = 1500;
    private static final int CALLS = 512;
    private static int wrong = 0;

    public static void main(String[] args) {
        for (int run = 0; run < RUNS && wrong < 20; run++) {
            new Run(run).go();
        }
        System.out.println(wrong == 0 ? "class and model agree" : wrong + " runs differ");
        if (wrong != 0) {
            System.exit(1);
        }
    }

    /** One run: a walk is told, then calls of all kinds follow, with wrong inputs among them. */
    private static final class Run {
        final int seed;
        final Random chance;
        final RestBounds x = new RestBounds();
        final Model model = new Model();
        final List<String> calls = new ArrayList<>();
        boolean differs = false;

        Run(int seed) {
            this.seed = seed;
            this.chance = new Random(seed);
        }

        void go() {
            tellWalk();
            while (calls.size() < CALLS - 120 && !differs) {
                anyCall();
            }
            lookAtAll();
        }

        void due(String call, long got, long want) {
            calls.add(call);
            if (got != want && !differs) {
                differs = true;
                wrong++;
                int from = Math.max(0, calls.size() - 12);
                System.out.println("run " + seed + ": " + call + " answered " + got + ", due is " + want
                    + "; call " + calls.size() + ", the last ones: " + calls.subList(from, calls.size()));
            }
        }

        int below(int n) {
            return chance.nextInt(n);
        }

        void tellWalk() {
            int n = seed % 5 == 0 ? 20 : 2 + below(12);
            int share = 1 + below(9);
            for (int s = 0; s < n; s++) {
                state(below(10) < share ? -1 : below(8));
            }
            int grain = 1 + below(5);
            for (int s = 0; s < n; s++) {
                if (model.isEnd(s)) {
                    continue;
                }
                int left = 16;
                for (int tries = 0; tries < 40 && left > 0; tries++) {
                    int k = Math.min(left, 1 + below(grain * grain));
                    int t = below(8) == 0 ? s : below(n);
                    left = 16 - arrow(s, t, k);
                }
                if (left > 0 && below(12) > 0) {
                    arrow(s, below(n), left);
                }
            }
            if (seed % 3 == 0) {
                for (int s = 0; s < n; s++) {
                    law(s, s);
                }
            }
            if (seed % 4 == 0) {
                for (int tries = 0; tries < 30; tries++) {
                    law(below(n), below(n));
                }
            }
            if (below(3) == 0) {
                joined(true);
            }
            order(below(3));
            begin(below(n));
        }

        int odd(int low, int high) {
            int[] others = {low - 1, low, high, high + 1, Integer.MAX_VALUE, Integer.MIN_VALUE, -1, 0};
            return below(12) == 0 ? others[below(others.length)] : low + below(high - low + 1);
        }

        int anyState() {
            return odd(0, Math.max(0, model.outcome.size() - 1));
        }

        int anySet() {
            return below(2) == 0 ? odd(0, 255) : 1 << below(8);
        }

        void anyCall() {
            switch (below(32)) {
                case 0: if (below(25) == 0) { state(odd(-1, 7)); } break;
                case 1: if (below(25) == 0) { arrow(anyState(), anyState(), odd(1, 16)); } break;
                case 2: case 3: case 4: law(anyState(), below(3) == 0 ? -1 : anyState()); break;
                case 5: { int s = anyState(); law(s, s); break; }
                case 6: order(odd(0, 2)); break;
                case 7: joined(below(2) == 0); break;
                case 8: case 9: begin(anyState()); break;
                case 10: case 11: case 12: case 13: grow(odd(0, 9)); break;
                case 14: grow(odd(0, 500)); break;
                case 15: case 16: until(anySet(), odd(0, 60), odd(0, 40)); break;
                case 17: case 18: case 19: end(anySet(), odd(0, 1)); break;
                case 20: case 21: given(anySet(), anySet(), odd(0, 1)); break;
                case 22: if (below(3) == 0) { best(anySet(), below(3) == 0 ? odd(0, 200) : odd(0, 12)); } break;
                case 23: case 24: item(odd(0, 12), odd(0, 1)); break;
                case 25: units(odd(0, 12)); break;
                case 26: found(odd(0, 7)); break;
                case 27: rests(anyState()); break;
                case 28: save(odd(0, 2)); break;
                case 29: back(odd(0, 2)); break;
                default: told(odd(0, 4)); told(odd(10, 29)); break;
            }
        }

        void lookAtAll() {
            for (int i = 0; i < 60 && i <= model.items.size() && !differs; i++) {
                units(i);
            }
            for (int i = 0; i < 8; i++) {
                found(i);
            }
            for (int s = 0; s < model.outcome.size(); s++) {
                rests(s);
            }
            for (int what = 0; what < 5; what++) {
                told(what);
            }
            if (calls.size() > CALLS) {
                wrong++;
                System.out.println("run " + seed + " has more than " + CALLS + " calls");
            }
        }

        void state(int o) { due("state(" + o + ")", x.state(o), model.state(o)); }
        int arrow(int s, int t, int k) {
            int got = x.arrow(s, t, k);
            due("arrow(" + s + ", " + t + ", " + k + ")", got, model.arrow(s, t, k));
            return Math.max(0, got);
        }
        void law(int s, int t) { due("law(" + s + ", " + t + ")", x.law(s, t), model.law(s, t)); }
        void order(int k) { due("order(" + k + ")", x.order(k), model.order(k)); }
        void joined(boolean on) { due("joined(" + on + ")", x.joined(on), model.joined(on)); }
        void begin(int s) { due("begin(" + s + ")", x.begin(s), model.begin(s)); }
        void grow(int n) { due("grow(" + n + ")", x.grow(n), model.grow(n)); }
        void until(int set, int w, int n) {
            due("until(" + set + ", " + w + ", " + n + ")", x.until(set, w, n), model.until(set, w, n));
        }
        void end(int set, int side) { due("end(" + set + ", " + side + ")", x.end(set, side), model.end(set, side)); }
        void given(int a, int b, int side) {
            due("given(" + a + ", " + b + ", " + side + ")", x.given(a, b, side), model.given(a, b, side));
        }
        void best(int set, int n) { due("best(" + set + ", " + n + ")", x.best(set, n), model.best(set, n)); }
        void item(int i, int what) { due("item(" + i + ", " + what + ")", x.item(i, what), model.item(i, what)); }
        void units(int i) { due("units(" + i + ")", x.units(i), model.units(i)); }
        void found(int o) { due("found(" + o + ")", x.found(o), model.found(o)); }
        void rests(int s) { due("rests(" + s + ")", x.rests(s), model.rests(s)); }
        void save(int k) { due("save(" + k + ")", x.save(k), model.save(k)); }
        void back(int k) { due("back(" + k + ")", x.back(k), model.back(k)); }
        void told(int what) { due("told(" + what + ")", x.told(what), model.told(what)); }
    }

    private static final class Item {
        final int state;
        final int depth;
        BigInteger units;

        Item(int state, int depth, BigInteger units) {
            this.state = state;
            this.depth = depth;
            this.units = units;
        }
    }

    /** All of a listing that a save holds. */
    private static final class Kept {
        final List<Item> items = new ArrayList<>();
        BigInteger[] found;
        BigInteger[] rests;
        int start;
        int times;
    }

    private static final class Model {
        final List<Integer> outcome = new ArrayList<>();
        final List<List<int[]>> arrows = new ArrayList<>();
        int[] laws = new int[0];
        int order = 0;
        boolean joined = false;
        boolean listing = false;
        List<Item> items = new ArrayList<>();
        BigInteger[] found = zeros(8);
        BigInteger[] rests = zeros(20);
        int start = -1;
        int times = 0;
        Kept[] saves = new Kept[3];

        static BigInteger[] zeros(int n) {
            BigInteger[] row = new BigInteger[n];
            java.util.Arrays.fill(row, BigInteger.ZERO);
            return row;
        }

        static BigInteger big(long n) {
            return BigInteger.valueOf(n);
        }

        boolean within(int n, int low, int high) {
            return n >= low && n <= high;
        }

        boolean isState(int s) {
            return within(s, 0, outcome.size() - 1);
        }

        boolean isEnd(int s) {
            return outcome.get(s) >= 0;
        }

        void takeAway() {
            listing = false;
            items = new ArrayList<>();
            start = -1;
            times = 0;
            saves = new Kept[3];
            laws = new int[outcome.size()];
            java.util.Arrays.fill(laws, -1);
        }

        int state(int o) {
            if (!within(o, -1, 7)) return -1;
            if (outcome.size() == 20) return -3;
            outcome.add(o);
            arrows.add(new ArrayList<>());
            takeAway();
            return outcome.size() - 1;
        }

        int total(int s) {
            int sum = 0;
            for (int[] each : arrows.get(s)) sum += each[1];
            return sum;
        }

        int to(int s, int t) {
            for (int[] each : arrows.get(s)) if (each[0] == t) return each[1];
            return 0;
        }

        int arrow(int s, int t, int k) {
            if (!isState(s) || !isState(t) || isEnd(s) || !within(k, 1, 16)) return -1;
            if (total(s) + k > 16) return -3;
            int[] one = null;
            for (int[] each : arrows.get(s)) if (each[0] == t) one = each;
            if (one == null) {
                one = new int[] {t, 0};
                arrows.get(s).add(one);
            }
            one[1] += k;
            takeAway();
            return total(s);
        }

        int law(int s, int t) {
            if (!isState(s) || isEnd(s)) return -1;
            if (t != -1 && !isState(t)) return -1;
            if (t != -1) {
                if (to(s, t) == 0 || total(s) != 16 || total(t) != 16) return -2;
                if (t == s && to(s, s) == 16) return -2;
                if (t != s && (to(t, s) == 0 || to(s, s) > 0 || to(t, t) > 0)) return -2;
                if (t != s && to(s, t) == 16 && to(t, s) == 16) return -2;
            }
            laws[s] = t;
            return 1;
        }

        int order(int kind) {
            if (!within(kind, 0, 2)) return -1;
            int was = order;
            order = kind;
            return was;
        }

        int joined(boolean on) {
            int was = joined ? 1 : 0;
            joined = on;
            return was;
        }

        void walkFrom(int s, Set<Integer> seen) {
            if (!seen.add(s)) return;
            for (int[] each : arrows.get(s)) walkFrom(each[0], seen);
        }

        Set<Integer> comesTo(int s) {
            Set<Integer> seen = new HashSet<>();
            walkFrom(s, seen);
            return seen;
        }

        int reach(int s) {
            int set = 0;
            for (int t : comesTo(s)) if (isEnd(t)) set |= 1 << outcome.get(t);
            return set;
        }

        boolean sure(int s) {
            for (int t : comesTo(s)) if (reach(t) == 0) return false;
            return true;
        }

        int[] reaches = new int[0];
        boolean[] sures = new boolean[0];

        int begin(int s) {
            if (!isState(s)) return -1;
            for (int t : comesTo(s)) if (!isEnd(t) && total(t) != 16) return -2;
            reaches = new int[outcome.size()];
            sures = new boolean[outcome.size()];
            for (int t = 0; t < reaches.length; t++) {
                reaches[t] = reach(t);
                sures[t] = sure(t);
            }
            beginAnew(s);
            return reaches[s];
        }

        void beginAnew(int s) {
            listing = true;
            items = new ArrayList<>();
            items.add(new Item(s, 0, big(1L << 60)));
            found = zeros(8);
            rests = zeros(20);
            start = s;
            times = 0;
        }

        Item next() {
            Item best = null;
            for (Item each : items) {
                if (best == null || order == 2
                    || order == 0 && each.depth < best.depth
                    || order == 1 && each.units.compareTo(best.units) > 0) best = each;
            }
            return best;
        }

        static Item share(int t, int d, BigInteger m, int w, int by) {
            return new Item(t, d, m.multiply(big(w)).divide(big(by)));
        }

        List<Item> shares(Item one) {
            int s = one.state;
            int r = laws[s];
            List<Item> all = new ArrayList<>();
            for (int[] each : arrows.get(s)) {
                if (r == -1) all.add(share(each[0], one.depth + 1, one.units, each[1], 16));
                else if (r == s && each[0] != s) all.add(share(each[0], one.depth + 1, one.units, each[1], 16 - to(s, s)));
                else if (r != s && each[0] != r) {
                    all.add(share(each[0], one.depth + 1, one.units, 16 * each[1], 256 - to(s, r) * to(r, s)));
                }
            }
            if (r != -1 && r != s) {
                for (int[] each : arrows.get(r)) {
                    if (each[0] == s) continue;
                    int d = one.depth + 2 > 40 ? 40 : one.depth + 2;
                    all.add(share(each[0], d, one.units, to(s, r) * each[1], 256 - to(s, r) * to(r, s)));
                }
            }
            all.removeIf(each -> each.units.signum() == 0);
            return all;
        }

        boolean goOn() {
            Item one = next();
            if (one == null) return false;
            List<Item> after = new ArrayList<>();
            for (Item each : items) if (each != one) after.add(new Item(each.state, each.depth, each.units));
            if (isEnd(one.state)) {
                found[outcome.get(one.state)] = found[outcome.get(one.state)].add(one.units);
            } else if (one.depth == 40) {
                rests[one.state] = rests[one.state].add(one.units);
            } else {
                BigInteger left = one.units;
                for (Item each : shares(one)) {
                    left = left.subtract(each.units);
                    Item home = null;
                    for (Item other : after) {
                        if (home == null && joined && other.state == each.state && other.depth == each.depth) home = other;
                    }
                    if (home == null) after.add(each);
                    else home.units = home.units.add(each.units);
                }
                if (after.size() > 60) return false;
                rests[one.state] = rests[one.state].add(left);
            }
            items = after;
            times++;
            return true;
        }

        int grow(int n) {
            if (!within(n, 0, 500)) return -1;
            if (!listing) return -2;
            int did = 0;
            while (did < n && goOn()) did++;
            return did;
        }

        BigInteger bound(int set, boolean high) {
            BigInteger sum = BigInteger.ZERO;
            for (int o = 0; o < 8; o++) if ((set & 1 << o) != 0) sum = sum.add(found[o]);
            for (Item each : items) if (counts(each.state, set, high)) sum = sum.add(each.units);
            for (int s = 0; s < outcome.size(); s++) if (counts(s, set, high)) sum = sum.add(rests[s]);
            return sum;
        }

        boolean counts(int s, int set, boolean high) {
            return high ? (reaches[s] & set) != 0 : sures[s] && (reaches[s] | set) == set;
        }

        BigInteger width(int set) {
            return bound(set, true).subtract(bound(set, false));
        }

        int until(int set, int w, int n) {
            if (!within(set, 0, 255) || !within(w, 0, 60) || !within(n, 0, 500)) return -1;
            if (!listing) return -2;
            int did = 0;
            while (did < n && width(set).compareTo(BigInteger.TWO.pow(60 - w)) > 0 && goOn()) did++;
            return did;
        }

        long end(int set, int side) {
            if (!within(set, 0, 255) || !within(side, 0, 1) || !listing) return 0;
            return bound(set, side == 1).longValueExact();
        }

        int given(int a, int b, int side) {
            if (!within(a, 0, 255) || !within(b, 0, 255) || !within(side, 0, 1)) return -1;
            if (!listing) return -2;
            BigInteger one = BigInteger.ONE.shiftLeft(30);
            BigInteger x = bound(a & b, side == 1);
            BigInteger both = x.add(bound(b & (255 - a), side == 0));
            if (both.signum() == 0) return side == 0 ? 0 : one.intValueExact();
            BigInteger[] part = x.multiply(one).divideAndRemainder(both);
            return part[0].intValueExact() + (side == 1 && part[1].signum() > 0 ? 1 : 0);
        }

        int best(int set, int n) {
            if (!within(set, 0, 255) || !within(n, 0, 200)) return -1;
            if (!listing) return -2;
            Kept was = keep();
            int orderWas = order;
            int best = -1;
            BigInteger least = null;
            for (int kind = 0; kind < 3; kind++) {
                beginAnew(was.start);
                order = kind;
                grow(n);
                if (least == null || width(set).compareTo(least) < 0) {
                    least = width(set);
                    best = kind;
                }
            }
            order = orderWas;
            restore(was);
            return best;
        }

        int item(int i, int what) {
            if (!within(what, 0, 1)) return -1;
            if (!listing) return -2;
            if (!within(i, 0, items.size() - 1)) return -1;
            return what == 0 ? items.get(i).state : items.get(i).depth;
        }

        long units(int i) {
            return listing && within(i, 0, items.size() - 1) ? items.get(i).units.longValueExact() : 0;
        }

        long found(int o) {
            return listing && within(o, 0, 7) ? found[o].longValueExact() : 0;
        }

        long rests(int s) {
            return listing && isState(s) ? rests[s].longValueExact() : 0;
        }

        Kept keep() {
            Kept kept = new Kept();
            for (Item each : items) kept.items.add(new Item(each.state, each.depth, each.units));
            kept.found = found.clone();
            kept.rests = rests.clone();
            kept.start = start;
            kept.times = times;
            return kept;
        }

        void restore(Kept kept) {
            listing = true;
            items = new ArrayList<>();
            for (Item each : kept.items) items.add(new Item(each.state, each.depth, each.units));
            found = kept.found.clone();
            rests = kept.rests.clone();
            start = kept.start;
            times = kept.times;
        }

        int save(int k) {
            if (!within(k, 0, 2)) return -1;
            if (!listing) return -2;
            saves[k] = keep();
            return items.size();
        }

        int back(int k) {
            if (!within(k, 0, 2)) return -1;
            if (saves[k] == null) return -2;
            restore(saves[k]);
            return items.size();
        }

        int told(int what) {
            switch (what) {
                case 0: return outcome.size();
                case 1: return items.size();
                case 2: return times;
                case 3: return start;
                case 4: return order;
                default: return within(what, 10, 9 + outcome.size()) ? laws[what - 10] : -1;
            }
        }
    }
}
