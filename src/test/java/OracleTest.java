import java.math.BigInteger;
import java.util.ArrayList;
import java.util.Arrays;
import java.util.HashMap;
import java.util.List;
import java.util.Map;

/**
 * Many graphs, made by a fixed row of numbers, against slow answers that follow the document's words:
 * counts by fractions, the pace by working through time until a state comes again.
 */
public final class OracleTest {
    private static final int GRAPHS = 4000;
    private static final int CALLS_MOST = 512;
    // So that two graphs with all that is asked about them are within the calls of one object.
    private static final int ORDER_ASKED = 160;

    private static long seed = 20261115L;
    private static int wrong = 0;
    private static int calls = 0;
    private static int paces = 0;
    private static int brokenPaces = 0;
    private static int slowerThanActors = 0;
    private static int stuckGraphs = 0;
    private static int unevenGraphs = 0;
    private static int greatGraphs = 0;
    private static int roomsSeen = 0;

    private static int below(int bound) {
        seed = seed * 6364136223846793005L + 1442695040888963407L;
        return (int) ((seed >>> 33) % bound);
    }

    /** A graph as the document has it. */
    private static final class Plain {
        final int n;
        final int[] time;
        final List<int[]> channels = new ArrayList<>();
        int uneven = -1;
        long[] count;
        boolean great;
        List<Integer> order = new ArrayList<>();
        int[] left;
        int[] peak;

        Plain(int n) {
            this.n = n;
            time = new int[n];
            Arrays.fill(time, 1);
        }

        void solve() {
            for (int c = 0; c < channels.size() && uneven < 0; c++) {
                if (countsOf(c + 1) == null) {
                    uneven = c;
                }
            }
            if (uneven < 0) {
                count = countsOf(channels.size());
                great = Arrays.stream(count).sum() > 400;
            }
            if (hasRound()) {
                play();
            }
        }

        boolean hasRound() {
            return uneven < 0 && !great;
        }

        boolean bound(int a, int b) {
            boolean[] in = new boolean[n];
            in[a] = true;
            for (int step = 0; step < n; step++) {
                for (int[] c : channels) {
                    boolean both = in[c[0]] || in[c[1]];
                    in[c[0]] = both;
                    in[c[1]] = both;
                }
            }
            return in[b];
        }

        /** Null if there are none for the first channels. */
        long[] countsOf(int first) {
            BigInteger[] over = new BigInteger[n];
            BigInteger[] under = new BigInteger[n];
            long[] answer = new long[n];
            for (int root = 0; root < n; root++) {
                if (over[root] != null) {
                    continue;
                }
                List<Integer> members = new ArrayList<>();
                over[root] = BigInteger.ONE;
                under[root] = BigInteger.ONE;
                members.add(root);
                for (int at = 0; at < members.size(); at++) {
                    spread(first, members.get(at), members, over, under);
                }
                scale(members, over, under, answer);
            }
            for (int[] c : channels.subList(0, first)) {
                if (answer[c[0]] * c[2] != answer[c[1]] * c[3]) {
                    return null;
                }
            }
            return answer;
        }

        void spread(int first, int a, List<Integer> members, BigInteger[] over, BigInteger[] under) {
            for (int[] c : channels.subList(0, first)) {
                if (c[0] == a && over[c[1]] == null) {
                    over[c[1]] = over[a].multiply(BigInteger.valueOf(c[2]));
                    under[c[1]] = under[a].multiply(BigInteger.valueOf(c[3]));
                    members.add(c[1]);
                } else if (c[1] == a && over[c[0]] == null) {
                    over[c[0]] = over[a].multiply(BigInteger.valueOf(c[3]));
                    under[c[0]] = under[a].multiply(BigInteger.valueOf(c[2]));
                    members.add(c[0]);
                }
            }
        }

        void scale(List<Integer> members, BigInteger[] over, BigInteger[] under, long[] answer) {
            BigInteger product = BigInteger.ONE;
            for (int a : members) {
                product = product.multiply(under[a]);
            }
            BigInteger common = BigInteger.ZERO;
            for (int a : members) {
                common = common.gcd(over[a].multiply(product).divide(under[a]));
            }
            for (int a : members) {
                answer[a] = over[a].multiply(product).divide(under[a]).divide(common).longValueExact();
            }
        }

        boolean ready(int a, int[] tokens) {
            for (int c = 0; c < tokens.length; c++) {
                if (channels.get(c)[1] == a && tokens[c] < channels.get(c)[3]) {
                    return false;
                }
            }
            return true;
        }

        void take(int a, int[] tokens) {
            for (int c = 0; c < tokens.length; c++) {
                if (channels.get(c)[1] == a) {
                    tokens[c] -= channels.get(c)[3];
                }
            }
        }

        void put(int a, int[] tokens) {
            for (int c = 0; c < tokens.length; c++) {
                if (channels.get(c)[0] == a) {
                    tokens[c] += channels.get(c)[2];
                }
            }
        }

        int[] firstTokens() {
            return channels.stream().mapToInt(c -> c[4]).toArray();
        }

        void play() {
            int[] tokens = firstTokens();
            peak = tokens.clone();
            left = Arrays.stream(count).mapToInt(c -> (int) c).toArray();
            boolean more = true;
            while (more) {
                more = false;
                for (int a = 0; a < n && !more; a++) {
                    if (left[a] > 0 && ready(a, tokens)) {
                        take(a, tokens);
                        put(a, tokens);
                        left[a]--;
                        order.add(a);
                        more = true;
                    }
                }
                for (int c = 0; c < tokens.length; c++) {
                    peak[c] = Math.max(peak[c], tokens[c]);
                }
            }
        }

        boolean alive() {
            return hasRound() && Arrays.stream(left).sum() == 0;
        }

        boolean comes(int a, int b) {
            boolean[] in = new boolean[n];
            in[a] = true;
            for (int step = 0; step < n; step++) {
                for (int[] c : channels) {
                    in[c[1]] |= in[c[0]];
                }
            }
            return in[b];
        }

        boolean closed(int actor) {
            for (int a = 0; a < n; a++) {
                for (int b = 0; b < n; b++) {
                    if (bound(actor, a) && bound(actor, b) && !comes(a, b)) {
                        return false;
                    }
                }
            }
            return true;
        }

        long countsOfPart(int actor) {
            long sum = 0;
            for (int a = 0; a < n; a++) {
                sum += bound(actor, a) ? count[a] : 0;
            }
            return sum;
        }

        /** Time and rounds between two times at which the part is in the same state. */
        long[] pace(int actor) {
            boolean[] in = new boolean[n];
            for (int a = 0; a < n; a++) {
                in[a] = bound(actor, a);
            }
            int[] tokens = firstTokens();
            int[] rest = new int[n];
            long begun = 0;
            Map<String, long[]> seen = new HashMap<>();
            for (long now = 0; ; now++) {
                for (int a = 0; a < n; a++) {
                    if (in[a] && rest[a] > 0 && --rest[a] == 0) {
                        put(a, tokens);
                    }
                }
                for (int a = 0; a < n; a++) {
                    if (in[a] && rest[a] == 0 && ready(a, tokens)) {
                        take(a, tokens);
                        rest[a] = time[a];
                        begun += a == actor ? 1 : 0;
                    }
                }
                long[] old = seen.put(Arrays.toString(tokens) + Arrays.toString(rest), new long[] {now, begun});
                if (old != null) {
                    // So many rounds are (begun - old) / count: the ratio of both, in lowest terms.
                    long p = (now - old[0]) * count[actor];
                    long q = begun - old[1];
                    long g = BigInteger.valueOf(p).gcd(BigInteger.valueOf(q)).longValue();
                    return new long[] {p / g, q / g};
                }
            }
        }

        boolean chain() {
            boolean is = channels.size() == n - 1;
            for (int c = 0; c < channels.size(); c++) {
                int[] h = channels.get(c);
                is &= h[0] == c && h[1] == c + 1 && h[4] == 0;
            }
            return is;
        }

        long room(int i, int j) {
            if (i == j) {
                return 0;
            }
            BigInteger g = BigInteger.ZERO;
            for (int a = i; a <= j; a++) {
                g = g.gcd(BigInteger.valueOf(count[a]));
            }
            long best = Long.MAX_VALUE;
            for (int k = i; k < j; k++) {
                long here = count[k] * channels.get(k)[2] / g.longValue();
                best = Math.min(best, room(i, k) + room(k + 1, j) + here);
            }
            return best;
        }

        int parts() {
            int sum = 0;
            for (int a = 0; a < n; a++) {
                boolean first = true;
                for (int b = 0; b < a; b++) {
                    first &= !bound(a, b);
                }
                sum += first ? 1 : 0;
            }
            return sum;
        }
    }

    private interface Call {
        int ask();
    }

    private static void due(String what, Plain p, Call call, String want) {
        calls++;
        if (calls > CALLS_MOST) {
            throw new AssertionError("an object is not used for more than 512 calls");
        }
        String got;
        try {
            got = String.valueOf(call.ask());
        } catch (RuntimeException e) {
            got = e.getClass().getSimpleName();
        }
        if (!got.equals(want) && wrong++ < 20) {
            StringBuilder text = new StringBuilder();
            for (int[] c : p.channels) {
                text.append(Arrays.toString(c));
            }
            System.out.println(p.n + " actors, times " + Arrays.toString(p.time) + ", channels " + text + ": "
                + what + " answered " + got + ", due is " + want);
        }
    }

    private static void due(String what, Plain p, Call call, long want) {
        due(what, p, call, String.valueOf(want));
    }

    public static void main(String[] args) {
        RatePlans x = new RatePlans();
        for (int g = 0; g < GRAPHS; g++) {
            // Half of the graphs begin on an object that has had another one.
            if (g % 2 == 0) {
                x = new RatePlans();
                calls = 0;
            }
            Plain p = build(x, g % 5);
            p.solve();
            compare(x, p);
        }
        boolean met = paces > 1000 && brokenPaces > 30 && slowerThanActors > 300 && stuckGraphs > 100
            && unevenGraphs > 100 && greatGraphs > 50 && roomsSeen > 100;
        if (!met) {
            System.out.println("too few kinds of graphs: " + paces + " paces, " + brokenPaces + " broken, "
                + slowerThanActors + " by loops, " + stuckGraphs + " stuck, " + unevenGraphs + " uneven, "
                + greatGraphs + " great, " + roomsSeen + " rooms");
        }
        if (wrong != 0 || !met) {
            System.out.println(wrong + " answers are not as due");
            System.exit(1);
        }
    }

    private static void add(RatePlans x, Plain p, int from, int to, int puts, int takes, int tokens) {
        due("channel", p, () -> x.channel(from, to, puts, takes, tokens), p.channels.size());
        p.channels.add(new int[] {from, to, puts, takes, tokens});
    }

    private static Plain build(RatePlans x, int kind) {
        Plain p = new Plain(1 + below(8));
        due("graph", p, () -> x.graph(p.n) ? 1 : 0, 1);
        for (int a = 0; a < p.n; a++) {
            int actor = a;
            if (below(4) > 0) {
                p.time[a] = 1 + below(9);
                due("time", p, () -> x.time(actor, p.time[actor]) ? 1 : 0, 1);
            }
        }
        if (kind == 0) {
            addAny(x, p);
        } else if (kind == 1) {
            addChain(x, p);
        } else {
            addLoops(x, p, kind);
        }
        return p;
    }

    private static void addAny(RatePlans x, Plain p) {
        int many = below(Math.min(15, p.n + 3));
        int most = 1 + below(9);
        for (int c = 0; c < many; c++) {
            add(x, p, below(p.n), below(p.n), 1 + below(most), 1 + below(most), below(3) == 0 ? below(100) : below(4));
        }
    }

    private static void addChain(RatePlans x, Plain p) {
        int most = 1 + below(9);
        for (int a = 0; a + 1 < p.n; a++) {
            add(x, p, a, a + 1, 1 + below(most), 1 + below(most), below(40) == 0 ? 1 : 0);
        }
    }

    /** Even graphs: the rates follow from counts that are drawn first; most are rings with more channels. */
    private static void addLoops(RatePlans x, Plain p, int kind) {
        int[] drawn = new int[p.n];
        int most = kind == 2 ? 1 : 1 + below(6);
        for (int a = 0; a < p.n; a++) {
            drawn[a] = 1 + below(most);
        }
        int ring = below(4) == 0 ? 1 + below(p.n) : p.n;
        int tokensMost = new int[] {3, 6, 12, 40}[below(4)];
        for (int a = 0; a < ring && ring > 1; a++) {
            addEven(x, p, drawn, a, (a + 1) % ring, tokensMost);
        }
        int more = below(15 - p.channels.size());
        for (int c = 0; c < more && below(3) > 0; c++) {
            addEven(x, p, drawn, below(p.n), below(p.n), tokensMost);
        }
    }

    private static void addEven(RatePlans x, Plain p, int[] drawn, int from, int to, int tokensMost) {
        int g = BigInteger.valueOf(drawn[from]).gcd(BigInteger.valueOf(drawn[to])).intValue();
        int puts = drawn[to] / g;
        int takes = drawn[from] / g;
        int times = 1 + below(Math.max(1, Math.min(2, 9 / Math.max(puts, takes))));
        add(x, p, from, to, puts * times, takes * times, below(tokensMost + 1));
    }

    private static void compare(RatePlans x, Plain p) {
        unevenGraphs += p.uneven >= 0 ? 1 : 0;
        greatGraphs += p.great ? 1 : 0;
        stuckGraphs += p.hasRound() && !p.alive() ? 1 : 0;
        due("uneven", p, () -> x.uneven(), p.uneven);
        due("total(0)", p, () -> x.total(0), p.n);
        due("total(1)", p, () -> x.total(1), p.channels.size());
        due("total(2)", p, () -> x.total(2), p.parts());
        due("total(3)", p, () -> x.total(3), p.order.size());
        for (int a = 0; a < p.n; a++) {
            compareActor(x, p, a);
        }
        for (int c = 0; c < p.channels.size(); c++) {
            int channel = c;
            due("peak", p, () -> x.peak(channel), p.hasRound() ? p.peak[c] : -1);
        }
        int step = 1 + p.order.size() / ORDER_ASKED;
        for (int k = p.order.size() - 1; k >= 0; k -= step) {
            int at = k;
            due("order", p, () -> x.order(at), p.order.get(k));
        }
        due("order behind the last", p, () -> x.order(p.order.size()), "NoSuchElementException");
        boolean room = p.chain() && !p.great;
        roomsSeen += room ? 1 : 0;
        due("room", p, () -> x.room(), room ? p.room(0, p.n - 1) : -1);
    }

    private static void compareActor(RatePlans x, Plain p, int a) {
        if (p.uneven >= 0) {
            due("count", p, () -> x.count(a), "IllegalStateException");
        } else if (p.great) {
            due("count", p, () -> x.count(a), "ArithmeticException");
        } else {
            due("count", p, () -> x.count(a), p.count[a]);
        }
        due("left", p, () -> x.left(a), p.hasRound() ? p.left[a] : -1);
        if (!p.alive() || !p.closed(a)) {
            due("pace", p, () -> x.pace(a, 0), "IllegalStateException");
        } else if (p.countsOfPart(a) > 40) {
            due("pace", p, () -> x.pace(a, 1), "ArithmeticException");
        } else {
            comparePace(x, p, a);
        }
    }

    private static void comparePace(RatePlans x, Plain p, int a) {
        long[] pace = p.pace(a);
        long slowest = 0;
        for (int b = 0; b < p.n; b++) {
            slowest = Math.max(slowest, p.bound(a, b) ? p.count[b] * p.time[b] : 0);
        }
        paces++;
        brokenPaces += pace[1] > 1 ? 1 : 0;
        slowerThanActors += pace[0] > slowest * pace[1] ? 1 : 0;
        due("pace p", p, () -> x.pace(a, 0), pace[0]);
        due("pace q", p, () -> x.pace(a, 1), pace[1]);
    }
}
