import java.util.NoSuchElementException;

/**
 * Actors that take and put so many tokens at a time: how often each is done in a round, whether and
 * in which order a round can be done, how many tokens lie where, how much time a round takes in the
 * long run, and the room that loops within loops need for a chain.
 */
public final class RatePlans {
    public static final int NONE = -1;

    private static final int ACTORS_MOST = 8;
    private static final int TIME_MOST = 9;
    private static final int CHANNELS_MOST = 14;
    private static final int RATE_MOST = 9;
    private static final int TOKENS_MOST = 99;
    private static final int COUNTS_MOST = 400;
    private static final int PACE_COUNTS_MOST = 40;
    // Each firing of a part waits for the one ahead of it by the same actor, and for one on each channel.
    private static final int EDGES_MOST = PACE_COUNTS_MOST * (1 + CHANNELS_MOST);
    // Euclid's steps on two ints are fewer than fifty.
    private static final int EUCLID_MOST = 100;
    // Passes over the edges until a better loop shows are hardly more than the firings, at most 40.
    private static final int PASSES_MOST = 1000;
    // Each loop is better than the one ahead of it, and there are fewer than 3000 ratios that can be.
    private static final int LOOPS_MOST = 10000;

    private final Net net;
    private final Round round;
    private final Pacer pacer;
    private final Rooms rooms;

    public RatePlans() {
        net = new Net();
        round = new Round();
        pacer = new Pacer();
        rooms = new Rooms();
    }

    public boolean graph(int n) {
        if (!isWithin(n, 1, ACTORS_MOST)) {
            return false;
        }
        net.begin(n);
        forgetAnswers();
        return true;
    }

    public boolean time(int actor, int time) {
        if (!net.hasActor(actor) || !isWithin(time, 1, TIME_MOST)) {
            return false;
        }
        net.time[actor] = time;
        forgetAnswers();
        return true;
    }

    public int channel(int from, int to, int puts, int takes, int tokens) {
        if (!net.hasActor(from) || !net.hasActor(to) || net.channels >= CHANNELS_MOST) {
            return NONE;
        }
        if (!isWithin(puts, 1, RATE_MOST) || !isWithin(takes, 1, RATE_MOST) || !isWithin(tokens, 0, TOKENS_MOST)) {
            return NONE;
        }
        forgetAnswers();
        return net.add(from, to, puts, takes, tokens);
    }

    public int uneven() {
        return net.uneven;
    }

    public int count(int actor) throws IllegalStateException, ArithmeticException {
        if (!net.hasActor(actor)) {
            return NONE;
        }
        if (net.isUneven()) {
            throw new IllegalStateException("a channel is uneven");
        }
        if (net.isGreat()) {
            throw new ArithmeticException("the graph is great");
        }
        return net.count[actor];
    }

    public int order(int k) throws NoSuchElementException {
        if (!findRound() || !isWithin(k, 0, round.done - 1)) {
            throw new NoSuchElementException("none is done there");
        }
        return round.order[k];
    }

    public int left(int actor) {
        return net.hasActor(actor) && findRound() ? round.left[actor] : NONE;
    }

    public int peak(int channel) {
        return net.hasChannel(channel) && findRound() ? round.peak[channel] : NONE;
    }

    public int pace(int actor, int what) throws NoSuchElementException, IllegalStateException, ArithmeticException {
        if (!net.hasActor(actor) || !isWithin(what, 0, 1)) {
            throw new NoSuchElementException("no such actor or what");
        }
        if (!findRound() || !round.isAlive(net) || !net.isClosed(actor)) {
            throw new IllegalStateException("the part has no pace");
        }
        if (net.countsOfPart(actor) > PACE_COUNTS_MOST) {
            throw new ArithmeticException("the counts of the part are too many");
        }
        pacer.find(net, net.part[actor]);
        return what == 0 ? pacer.paceTime : pacer.paceRounds;
    }

    public int room() {
        return net.isChain() && !net.isGreat() ? rooms.ofAll(net) : NONE;
    }

    public int total(int what) {
        switch (what) {
            case 0:
                return net.actors;
            case 1:
                return net.channels;
            case 2:
                return net.parts();
            case 3:
                return findRound() ? round.done : 0;
            default:
                return NONE;
        }
    }

    private void forgetAnswers() {
        round.known = false;
        pacer.knownPart = NONE;
    }

    private boolean findRound() {
        if (net.isUneven() || net.isGreat()) {
            return false;
        }
        if (!round.known) {
            round.play(net);
        }
        return true;
    }

    private static boolean isWithin(int x, int least, int most) {
        return x >= least && x <= most;
    }

    private static int commonDivisor(int a, int b) {
        int x = a;
        int y = b;
        for (int step = 0; step < EUCLID_MOST && y != 0; step++) {
            int rest = x % y;
            x = y;
            y = rest;
        }
        return x;
    }

    private static int divided(int a, int b) {
        return b == 0 ? 0 : a / b;
    }

    /** The actors and channels, with the parts and counts that each new channel brings up to date. */
    private static final class Net {
        private int actors;
        private int channels;
        private int uneven;
        private final int[] time = new int[ACTORS_MOST];
        private final int[] count = new int[ACTORS_MOST];
        // The least actor of the part stands for it.
        private final int[] part = new int[ACTORS_MOST];
        private final int[] from = new int[CHANNELS_MOST];
        private final int[] to = new int[CHANNELS_MOST];
        private final int[] puts = new int[CHANNELS_MOST];
        private final int[] takes = new int[CHANNELS_MOST];
        private final int[] tokens = new int[CHANNELS_MOST];

        private Net() {
            begin(1);
        }

        private void begin(int n) {
            actors = n;
            channels = 0;
            uneven = NONE;
            for (int a = 0; a < ACTORS_MOST; a++) {
                time[a] = 1;
                count[a] = 1;
                part[a] = a;
            }
        }

        private boolean hasActor(int actor) {
            return actor >= 0 && actor < actors;
        }

        private boolean hasChannel(int channel) {
            return channel >= 0 && channel < channels;
        }

        private int add(int source, int target, int put, int take, int first) {
            int c = channels;
            if (c >= CHANNELS_MOST) {
                return NONE;
            }
            from[c] = source;
            to[c] = target;
            puts[c] = put;
            takes[c] = take;
            tokens[c] = first;
            channels = c + 1;
            balance(c);
            return c;
        }

        private void balance(int c) {
            int given = count[from[c]] * puts[c];
            int taken = count[to[c]] * takes[c];
            int source = part[from[c]];
            int target = part[to[c]];
            if (source != target) {
                // Both parts have no common divisor, nor have the two factors: so the counts stay the least.
                int common = commonDivisor(given, taken);
                multiply(source, divided(taken, common));
                multiply(target, divided(given, common));
                join(source, target);
            } else if (given != taken && uneven == NONE) {
                uneven = c;
            }
        }

        // A tree of seven channels keeps each count within 9 to the 7th, so an int holds it.
        private void multiply(int whichPart, int factor) {
            for (int a = 0; a < actors; a++) {
                if (part[a] == whichPart) {
                    count[a] *= factor;
                }
            }
        }

        private void join(int one, int other) {
            int least = Math.min(one, other);
            int gone = Math.max(one, other);
            for (int a = 0; a < actors; a++) {
                if (part[a] == gone) {
                    part[a] = least;
                }
            }
        }

        private int parts() {
            int found = 0;
            for (int a = 0; a < actors; a++) {
                if (part[a] == a) {
                    found++;
                }
            }
            return found;
        }

        private boolean isUneven() {
            return uneven != NONE;
        }

        private boolean isGreat() {
            int sum = 0;
            for (int a = 0; a < actors; a++) {
                sum += count[a];
            }
            return sum > COUNTS_MOST;
        }

        private int countsOfPart(int actor) {
            int sum = 0;
            for (int a = 0; a < actors; a++) {
                if (part[a] == part[actor]) {
                    sum += count[a];
                }
            }
            return sum;
        }

        // If one actor reaches all others and is reached by all, each comes to each other one through it.
        private boolean isClosed(int actor) {
            int members = 0;
            for (int a = 0; a < actors; a++) {
                if (part[a] == part[actor]) {
                    members |= 1 << a;
                }
            }
            return reached(actor, from, to) == members && reached(actor, to, from) == members;
        }

        private int reached(int start, int[] tails, int[] heads) {
            int found = 1 << start;
            for (int step = 0; step < actors; step++) {
                for (int c = 0; c < channels; c++) {
                    if ((found >> tails[c] & 1) == 1) {
                        found |= 1 << heads[c];
                    }
                }
            }
            return found;
        }

        private boolean isChain() {
            if (channels != actors - 1) {
                return false;
            }
            for (int c = 0; c < channels; c++) {
                if (from[c] != c || to[c] != c + 1 || tokens[c] != 0) {
                    return false;
                }
            }
            return true;
        }
    }

    /** A round by order, played once for each graph that is asked for. */
    private static final class Round {
        private boolean known;
        private int done;
        private final int[] order = new int[COUNTS_MOST];
        private final int[] left = new int[ACTORS_MOST];
        private final int[] lying = new int[CHANNELS_MOST];
        private final int[] peak = new int[CHANNELS_MOST];

        private void play(Net net) {
            begin(net);
            for (int k = 0; k < COUNTS_MOST; k++) {
                int actor = leastReady(net);
                if (actor == NONE) {
                    break;
                }
                fire(net, actor);
                order[k] = actor;
                done = k + 1;
            }
            known = true;
        }

        private void begin(Net net) {
            done = 0;
            for (int a = 0; a < net.actors; a++) {
                left[a] = net.count[a];
            }
            for (int c = 0; c < net.channels; c++) {
                lying[c] = net.tokens[c];
                peak[c] = net.tokens[c];
            }
        }

        private int leastReady(Net net) {
            for (int a = 0; a < net.actors; a++) {
                if (left[a] > 0 && hasEnough(net, a)) {
                    return a;
                }
            }
            return NONE;
        }

        private boolean hasEnough(Net net, int actor) {
            for (int c = 0; c < net.channels; c++) {
                if (net.to[c] == actor && lying[c] < net.takes[c]) {
                    return false;
                }
            }
            return true;
        }

        // A peak is looked at when the actor has both taken and put: a channel to itself shows only the end.
        private void fire(Net net, int actor) {
            left[actor]--;
            for (int c = 0; c < net.channels; c++) {
                if (net.to[c] == actor) {
                    lying[c] -= net.takes[c];
                }
                if (net.from[c] == actor) {
                    lying[c] += net.puts[c];
                }
                peak[c] = Math.max(peak[c], lying[c]);
            }
        }

        private boolean isAlive(Net net) {
            for (int a = 0; a < net.actors; a++) {
                if (left[a] != 0) {
                    return false;
                }
            }
            return true;
        }
    }

    /**
     * The pace of a closed part. Each firing of a round is a node; an edge says that a firing waits for
     * another one, so many rounds back. In the long run the pace is the greatest ratio, over all loops of
     * edges, of the time of the firings on the loop to the rounds that the loop goes back.
     */
    private static final class Pacer {
        private int knownPart;
        private int paceTime;
        private int paceRounds;
        private int nodes;
        private int edges;
        private final int[] firstNode = new int[ACTORS_MOST];
        private final int[] nodeTime = new int[PACE_COUNTS_MOST];
        private final int[] edgeFrom = new int[EDGES_MOST];
        private final int[] edgeTo = new int[EDGES_MOST];
        private final int[] edgeRounds = new int[EDGES_MOST];
        private final int[] excess = new int[PACE_COUNTS_MOST];
        private final int[] via = new int[PACE_COUNTS_MOST];
        private final int[] seenFrom = new int[PACE_COUNTS_MOST];

        private Pacer() {
            knownPart = NONE;
            paceTime = 1;
            paceRounds = 1;
        }

        private void find(Net net, int part) {
            if (knownPart == part) {
                return;
            }
            addFirings(net, part);
            addWaits(net, part);
            beginWithSlowestActor(net, part);
            for (int k = 0; k < LOOPS_MOST; k++) {
                int node = nodeOnSlowerLoop();
                if (node == NONE) {
                    break;
                }
                takeRatioOf(node);
            }
            knownPart = part;
        }

        private void addFirings(Net net, int part) {
            nodes = 0;
            edges = 0;
            for (int a = 0; a < net.actors; a++) {
                if (net.part[a] == part) {
                    addFiringsOf(a, net.count[a], net.time[a]);
                }
            }
        }

        // An actor does one firing at a time; its first one of a round waits for its last one a round back.
        private void addFiringsOf(int actor, int count, int time) {
            if (nodes + count > PACE_COUNTS_MOST) {
                return;
            }
            firstNode[actor] = nodes;
            addEdge(nodes + count - 1, nodes, 1);
            for (int i = 0; i < count; i++) {
                nodeTime[nodes] = time;
                if (i > 0) {
                    addEdge(nodes - 1, nodes, 0);
                }
                nodes++;
            }
        }

        private void addWaits(Net net, int part) {
            for (int c = 0; c < net.channels; c++) {
                if (net.part[net.from[c]] == part) {
                    addWaitsOf(net, c);
                }
            }
        }

        // Firing j needs all tokens up to its last one: so it waits for the firing that puts that token.
        private void addWaitsOf(Net net, int c) {
            int source = net.from[c];
            int target = net.to[c];
            int puts = net.puts[c];
            int perRound = net.count[source];
            if (puts <= 0 || perRound <= 0) {
                return;
            }
            for (int j = 0; j < net.count[target]; j++) {
                int lastToken = (j + 1) * net.takes[c] - net.tokens[c] - 1;
                int firing = Math.floorDiv(lastToken, puts);
                int inRound = Math.floorMod(firing, perRound);
                int back = -Math.floorDiv(firing, perRound);
                addEdge(firstNode[source] + inRound, firstNode[target] + j, back);
            }
        }

        private void addEdge(int source, int target, int rounds) {
            if (edges < EDGES_MOST && source < PACE_COUNTS_MOST && target < PACE_COUNTS_MOST) {
                edgeFrom[edges] = source;
                edgeTo[edges] = target;
                edgeRounds[edges] = rounds;
                edges++;
            }
        }

        // All times of a loop are at most eight times this one, so that slower loops go back few rounds.
        private void beginWithSlowestActor(Net net, int part) {
            paceTime = 0;
            paceRounds = 1;
            for (int a = 0; a < net.actors; a++) {
                if (net.part[a] == part) {
                    paceTime = Math.max(paceTime, net.count[a] * net.time[a]);
                }
            }
        }

        // A loop is slower than the pace if its edges' excess of time over the pace is above 0 in all.
        private int nodeOnSlowerLoop() {
            for (int v = 0; v < nodes; v++) {
                excess[v] = 0;
                via[v] = NONE;
            }
            for (int pass = 0; pass < PASSES_MOST; pass++) {
                if (!raiseAll()) {
                    return NONE;
                }
                int node = nodeOnLoopOfRaises();
                if (node != NONE) {
                    return node;
                }
            }
            return NONE;
        }

        private boolean raiseAll() {
            boolean raised = false;
            for (int e = 0; e < edges; e++) {
                int source = edgeFrom[e];
                int target = edgeTo[e];
                int reach = excess[source] + nodeTime[source] * paceRounds - edgeRounds[e] * paceTime;
                if (reach > excess[target]) {
                    excess[target] = reach;
                    via[target] = e;
                    raised = true;
                }
            }
            return raised;
        }

        private int nodeOnLoopOfRaises() {
            for (int v = 0; v < nodes; v++) {
                seenFrom[v] = NONE;
            }
            for (int start = 0; start < nodes; start++) {
                int v = start;
                for (int step = 0; step <= nodes && v != NONE && seenFrom[v] == NONE; step++) {
                    seenFrom[v] = start;
                    v = nodeAhead(v);
                }
                if (v != NONE && seenFrom[v] == start) {
                    return v;
                }
            }
            return NONE;
        }

        private int nodeAhead(int node) {
            int edge = via[node];
            return edge == NONE ? NONE : edgeFrom[edge];
        }

        private void takeRatioOf(int node) {
            int time = 0;
            int rounds = 0;
            int v = node;
            for (int step = 0; step < nodes && v != NONE && via[v] != NONE; step++) {
                rounds += edgeRounds[via[v]];
                v = edgeFrom[via[v]];
                time += nodeTime[v];
                if (v == node) {
                    break;
                }
            }
            int common = commonDivisor(time, rounds);
            // A graph that is alive has no loop within one round; the test only keeps the pace a ratio.
            if (rounds > 0) {
                paceTime = divided(time, common);
                paceRounds = divided(rounds, common);
            }
        }
    }

    /** The room of each stretch of a chain, from the short ones to the whole. */
    private static final class Rooms {
        private final int[][] least = new int[ACTORS_MOST][ACTORS_MOST];

        private int ofAll(Net net) {
            for (int i = net.actors - 1; i >= 0; i--) {
                least[i][i] = 0;
                int common = net.count[i];
                for (int j = i + 1; j < net.actors; j++) {
                    common = commonDivisor(common, net.count[j]);
                    least[i][j] = ofBestCut(net, i, j, common);
                }
            }
            return least[0][net.actors - 1];
        }

        private int ofBestCut(Net net, int i, int j, int common) {
            int best = Integer.MAX_VALUE;
            for (int k = i; k < j; k++) {
                int across = divided(net.count[k] * net.puts[k], common);
                best = Math.min(best, least[i][k] + least[k + 1][j] + across);
            }
            return best;
        }
    }
}
