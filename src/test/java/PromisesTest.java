/** Each promise of the document with ordinary inputs, its edges and wrong inputs, worked out by hand. */
public final class PromisesTest {
    private static final int[] WRONG = {-1, Integer.MIN_VALUE, Integer.MAX_VALUE};
    private static final String NO_SUCH = "NoSuchElementException";
    private static final String STATE = "IllegalStateException";
    private static final String ARITHMETIC = "ArithmeticException";

    private static int wrong = 0;

    private interface Call {
        int ask();
    }

    public static void main(String[] args) {
        promise1NewObject();
        promise2Graph();
        promise3Time();
        promise4Channel();
        promise4ChannelsMost();
        promise5Uneven();
        promise6Count();
        promise7Order();
        promise8Left();
        promise9Peak();
        promise10PaceThrows();
        promise10PaceOfPlainLoops();
        promise10PaceOfRates();
        promise10PaceOfParts();
        promise10PaceForgetsNothing();
        promise11Room();
        promise11NoRoom();
        promise12Total();
        if (wrong != 0) {
            System.out.println(wrong + " answers are not as due");
            System.exit(1);
        }
    }

    private static void due(String what, Call call, int want) {
        check(what, answer(call), String.valueOf(want));
    }

    private static void dueThrow(String what, Call call, String want) {
        check(what, answer(call), want);
    }

    private static void due(String what, boolean got, boolean want) {
        check(what, String.valueOf(got), String.valueOf(want));
    }

    private static void check(String what, String got, String want) {
        if (!got.equals(want)) {
            wrong++;
            System.out.println(what + " answered " + got + ", due is " + want);
        }
    }

    private static String answer(Call call) {
        try {
            return String.valueOf(call.ask());
        } catch (RuntimeException e) {
            return e.getClass().getSimpleName();
        }
    }

    private static RatePlans of(int n) {
        RatePlans x = new RatePlans();
        due("graph(" + n + ")", x.graph(n), true);
        return x;
    }

    private static void totals(String what, RatePlans x, int actors, int channels, int parts, int done) {
        due(what + ": total(0)", () -> x.total(0), actors);
        due(what + ": total(1)", () -> x.total(1), channels);
        due(what + ": total(2)", () -> x.total(2), parts);
        due(what + ": total(3)", () -> x.total(3), done);
    }

    private static void orderIs(String what, RatePlans x, int... want) {
        for (int k = 0; k < want.length; k++) {
            int at = k;
            due(what + ": order(" + k + ")", () -> x.order(at), want[k]);
        }
        dueThrow(what + ": order(" + want.length + ")", () -> x.order(want.length), NO_SUCH);
    }

    private static void paceIs(String what, RatePlans x, int actor, int p, int q) {
        due(what + ": pace(" + actor + ", 0)", () -> x.pace(actor, 0), p);
        due(what + ": pace(" + actor + ", 1)", () -> x.pace(actor, 1), q);
    }

    private static RatePlans unevenOne() {
        RatePlans x = of(2);
        x.channel(0, 1, 1, 1, 9);
        x.channel(0, 1, 1, 2, 9);
        return x;
    }

    /** Counts 1, 9, 81, 729. */
    private static RatePlans greatOne() {
        RatePlans x = of(4);
        for (int a = 0; a < 3; a++) {
            x.channel(a, a + 1, 9, 1, 0);
        }
        return x;
    }

    private static void promise1NewObject() {
        RatePlans x = new RatePlans();
        totals("a new object", x, 1, 0, 1, 1);
        due("NONE", () -> RatePlans.NONE, -1);
        due("new: uneven()", () -> x.uneven(), -1);
        due("new: count(0)", () -> x.count(0), 1);
        due("new: count(1)", () -> x.count(1), -1);
        due("new: peak(0)", () -> x.peak(0), -1);
        due("new: room()", () -> x.room(), 0);
        orderIs("new", x, 0);
        paceIs("new", x, 0, 1, 1);
    }

    private static void promise2Graph() {
        RatePlans x = of(8);
        totals("graph(8)", x, 8, 0, 8, 8);
        x.time(7, 4);
        x.channel(0, 1, 2, 1, 0);
        for (int n : new int[] {0, 9, -1, Integer.MIN_VALUE, Integer.MAX_VALUE}) {
            due("graph(" + n + ")", x.graph(n), false);
            totals("graph(" + n + ") changes nothing", x, 8, 1, 7, 9);
            paceIs("graph(" + n + ") changes nothing", x, 7, 4, 1);
        }
        due("graph(8) again", x.graph(8), true);
        totals("graph(8) again", x, 8, 0, 8, 8);
        paceIs("graph(8) again has times 1", x, 7, 1, 1);
        due("graph(1)", x.graph(1), true);
        totals("graph(1)", x, 1, 0, 1, 1);
        due("graph(1): left(1)", () -> x.left(1), -1);
    }

    private static void promise3Time() {
        RatePlans x = of(2);
        for (int t = 9; t >= 1; t--) {
            due("time(1, " + t + ")", x.time(1, t), true);
            paceIs("time(1, " + t + ")", x, 1, t, 1);
            paceIs("time of the other", x, 0, 1, 1);
        }
        x.time(1, 5);
        for (int t : new int[] {0, 10, -1, Integer.MIN_VALUE, Integer.MAX_VALUE}) {
            due("time(1, " + t + ")", x.time(1, t), false);
        }
        for (int a : new int[] {2, 8, -1, Integer.MIN_VALUE, Integer.MAX_VALUE}) {
            due("time(" + a + ", 3)", x.time(a, 3), false);
        }
        paceIs("wrong times change nothing", x, 0, 1, 1);
        paceIs("wrong times change nothing", x, 1, 5, 1);
    }

    private static void promise4Channel() {
        RatePlans x = of(2);
        int[][] none = {
            {-1, 0, 1, 1, 0}, {2, 0, 1, 1, 0}, {0, -1, 1, 1, 0}, {0, 2, 1, 1, 0},
            {0, 1, 0, 1, 0}, {0, 1, 10, 1, 0}, {0, 1, 1, 0, 0}, {0, 1, 1, 10, 0},
            {0, 1, 1, 1, -1}, {0, 1, 1, 1, 100},
        };
        for (int[] c : none) {
            due("a wrong channel", () -> x.channel(c[0], c[1], c[2], c[3], c[4]), -1);
        }
        for (int w : WRONG) {
            due("a wrong from", () -> x.channel(w, 0, 1, 1, 0), -1);
            due("a wrong to", () -> x.channel(0, w, 1, 1, 0), -1);
            due("wrong puts", () -> x.channel(0, 1, w, 1, 0), -1);
            due("wrong takes", () -> x.channel(0, 1, 1, w, 0), -1);
            due("wrong tokens", () -> x.channel(0, 1, 1, 1, w), -1);
        }
        totals("wrong channels change nothing", x, 2, 0, 2, 2);
        due("the least channel", () -> x.channel(0, 1, 1, 1, 0), 0);
        due("the greatest channel", () -> x.channel(1, 0, 9, 9, 99), 1);
        due("a channel to itself", () -> x.channel(1, 1, 3, 3, 3), 2);
        totals("three channels", x, 2, 3, 1, 2);
    }

    private static void promise4ChannelsMost() {
        RatePlans x = of(2);
        for (int c = 0; c < 14; c++) {
            int number = c;
            due("channel " + c, () -> x.channel(0, 1, 1, 1, number), c);
        }
        due("a fifteenth channel", () -> x.channel(0, 1, 1, 2, 0), -1);
        due("it is not there", () -> x.uneven(), -1);
        due("it is not there", () -> x.peak(14), -1);
        due("the last one is", () -> x.peak(13), 14);
        due("fourteen are", () -> x.total(1), 14);
        x.graph(2);
        due("a new graph numbers anew", () -> x.channel(1, 0, 1, 1, 0), 0);
    }

    private static void promise5Uneven() {
        RatePlans self = of(1);
        self.channel(0, 0, 2, 2, 0);
        due("an even channel to itself", () -> self.uneven(), -1);
        self.channel(0, 0, 2, 3, 9);
        due("an uneven channel to itself", () -> self.uneven(), 1);
        RatePlans x = of(4);
        x.channel(0, 1, 2, 3, 0);
        x.channel(1, 2, 4, 5, 0);
        x.channel(2, 0, 5, 1, 0);
        due("the third of a loop", () -> x.uneven(), 2);
        x.channel(3, 3, 1, 2, 0);
        x.channel(2, 3, 1, 1, 0);
        due("the first one stays", () -> x.uneven(), 2);
        x.graph(4);
        due("a new graph has none", () -> x.uneven(), -1);
        x.channel(0, 1, 1, 1, 0);
        x.channel(2, 3, 2, 1, 0);
        x.channel(0, 2, 1, 1, 0);
        x.channel(1, 3, 1, 1, 0);
        due("two parts, bound twice", () -> x.uneven(), 3);
        due("a great graph is not uneven", () -> greatOne().uneven(), -1);
    }

    private static void promise6Count() {
        RatePlans x = of(5);
        x.channel(0, 1, 4, 6, 0);
        x.channel(2, 3, 8, 4, 0);
        int[] want = {3, 2, 1, 2, 1};
        for (int a = 0; a < 5; a++) {
            int actor = a;
            due("count(" + a + ")", () -> x.count(actor), want[a]);
        }
        x.channel(3, 0, 3, 1, 0);
        int[] joined = {6, 4, 1, 2, 1};
        for (int a = 0; a < 5; a++) {
            int actor = a;
            due("count(" + a + ") of a joined part", () -> x.count(actor), joined[a]);
        }
        RatePlans uneven = unevenOne();
        RatePlans great = greatOne();
        dueThrow("count of an uneven graph", () -> uneven.count(0), STATE);
        dueThrow("count of a great graph", () -> great.count(3), ARITHMETIC);
        for (int w : WRONG) {
            due("count of no actor", () -> x.count(w), -1);
            due("count of no actor, uneven", () -> uneven.count(w), -1);
            due("count of no actor, great", () -> great.count(w), -1);
        }
        great.channel(0, 0, 1, 2, 0);
        dueThrow("great, then uneven", () -> great.count(0), STATE);
        promise6Great();
    }

    /** The counts of all parts together: 400 is not great, 401 is. */
    private static void promise6Great() {
        due("400 are not great", () -> sumOf(400).total(3), 400);
        due("400 are not great", () -> sumOf(400).count(6), 54);
        due("400 are not great", () -> sumOf(400).left(7), 0);
        dueThrow("401 are great", () -> sumOf(401).count(6), ARITHMETIC);
        due("401 are great", () -> sumOf(401).total(3), 0);
        due("401 are great", () -> sumOf(401).left(7), -1);
        due("401 are great", () -> sumOf(401).uneven(), -1);
        RatePlans parts = of(7);
        for (int a = 0; a < 6; a++) {
            if (a != 2) {
                parts.channel(a, a + 1, 9, 1, 0);
            }
        }
        // Counts 1, 9, 81 and 1, 9, 81, 729: great by the second part, and so for the first one, too.
        dueThrow("one part makes all great", () -> parts.count(0), ARITHMETIC);
    }

    /** Counts 1, 9, 81, 9, 81, 162 and 54 are 397; the last actor has the rest. */
    private static RatePlans sumOf(int all) {
        RatePlans x = of(8);
        x.channel(0, 1, 9, 1, 0);
        x.channel(1, 2, 9, 1, 0);
        x.channel(0, 3, 9, 1, 0);
        x.channel(3, 4, 9, 1, 0);
        x.channel(4, 5, 2, 1, 0);
        x.channel(3, 6, 6, 1, 0);
        x.channel(0, 7, all - 397, 1, 0);
        return x;
    }

    private static void promise7Order() {
        RatePlans x = of(3);
        x.channel(0, 1, 2, 3, 0);
        x.channel(1, 2, 1, 2, 0);
        orderIs("a chain", x, 0, 0, 0, 1, 1, 2);
        RatePlans back = of(3);
        back.channel(2, 0, 1, 1, 0);
        back.channel(0, 2, 1, 1, 1);
        back.channel(2, 1, 2, 1, 0);
        orderIs("the least that can", back, 2, 0, 1, 1);
        RatePlans stuck = of(3);
        stuck.channel(0, 1, 1, 1, 1);
        stuck.channel(1, 0, 1, 1, 0);
        stuck.channel(1, 2, 1, 2, 0);
        stuck.channel(2, 1, 2, 1, 0);
        orderIs("stuck at once", stuck);
        RatePlans half = of(2);
        half.channel(0, 1, 1, 3, 0);
        half.channel(1, 0, 3, 1, 2);
        orderIs("stuck half-way", half, 0, 0);
        for (int w : WRONG) {
            dueThrow("no such k", () -> x.order(w), NO_SUCH);
            dueThrow("no such k, uneven", () -> unevenOne().order(w), NO_SUCH);
        }
        dueThrow("order of an uneven graph", () -> unevenOne().order(0), NO_SUCH);
        dueThrow("order of a great graph", () -> greatOne().order(0), NO_SUCH);
    }

    private static void promise8Left() {
        RatePlans x = of(3);
        x.channel(0, 1, 1, 3, 0);
        x.channel(1, 0, 3, 1, 2);
        due("left(0)", () -> x.left(0), 1);
        due("left(1)", () -> x.left(1), 1);
        due("left(2)", () -> x.left(2), 0);
        due("left(3)", () -> x.left(3), -1);
        x.channel(2, 2, 5, 5, 4);
        due("left(2) with too few tokens", () -> x.left(2), 1);
        for (int w : WRONG) {
            due("left of no actor", () -> x.left(w), -1);
        }
        RatePlans alive = of(2);
        alive.channel(0, 1, 1, 3, 0);
        alive.channel(1, 0, 3, 1, 3);
        due("left(0) of an alive graph", () -> alive.left(0), 0);
        due("left(1) of an alive graph", () -> alive.left(1), 0);
        due("left of an uneven graph", () -> unevenOne().left(0), -1);
        due("left of a great graph", () -> greatOne().left(0), -1);
    }

    private static void promise9Peak() {
        RatePlans x = of(3);
        x.channel(0, 1, 2, 3, 0);
        x.channel(1, 2, 1, 2, 0);
        x.channel(2, 2, 4, 4, 4);
        x.channel(2, 0, 3, 1, 50);
        due("peak(0)", () -> x.peak(0), 6);
        due("peak(1)", () -> x.peak(1), 2);
        due("peak of a channel to itself", () -> x.peak(2), 4);
        due("peak at first", () -> x.peak(3), 50);
        due("peak(4)", () -> x.peak(4), -1);
        for (int w : WRONG) {
            due("peak of no channel", () -> x.peak(w), -1);
        }
        RatePlans stuck = of(2);
        stuck.channel(0, 1, 4, 8, 0);
        stuck.channel(1, 0, 2, 1, 1);
        due("peak of a stuck graph", () -> stuck.peak(0), 4);
        due("peak of a stuck graph", () -> stuck.peak(1), 1);
        stuck.channel(0, 0, 7, 7, 7);
        due("a channel more", () -> stuck.peak(2), 7);
        due("peak of an uneven graph", () -> unevenOne().peak(0), -1);
        due("peak of a great graph", () -> greatOne().peak(0), -1);
    }

    private static RatePlans closedPair(int counts, int otherCount, int tokens) {
        RatePlans x = of(2);
        x.channel(0, 1, otherCount, counts, 0);
        x.channel(1, 0, counts, otherCount, tokens);
        return x;
    }

    private static void promise10PaceThrows() {
        RatePlans x = of(2);
        RatePlans uneven = unevenOne();
        RatePlans great = greatOne();
        for (int w : WRONG) {
            dueThrow("pace of no actor", () -> x.pace(w, 0), NO_SUCH);
            dueThrow("pace of no what", () -> x.pace(0, w), NO_SUCH);
            dueThrow("no actor comes first", () -> uneven.pace(w, 0), NO_SUCH);
            dueThrow("no what comes first", () -> great.pace(0, w), NO_SUCH);
        }
        dueThrow("pace(2, 0)", () -> x.pace(2, 0), NO_SUCH);
        dueThrow("pace(0, 2)", () -> x.pace(0, 2), NO_SUCH);
        dueThrow("pace of an uneven graph", () -> uneven.pace(0, 0), STATE);
        dueThrow("pace of a great graph", () -> great.pace(0, 1), STATE);
        dueThrow("pace of a graph that is not alive", () -> closedPair(3, 2, 3).pace(0, 0), STATE);
        x.channel(0, 1, 1, 1, 5);
        dueThrow("pace of a part that is not closed", () -> x.pace(0, 0), STATE);
        dueThrow("pace of a part that is not closed", () -> x.pace(1, 0), STATE);
        x.channel(1, 0, 1, 1, 0);
        paceIs("now it is closed", x, 0, 1, 1);
        RatePlans other = of(3);
        other.channel(2, 2, 1, 1, 0);
        dueThrow("another part is not alive", () -> other.pace(0, 0), STATE);
        promise10TooMany();
    }

    /** Counts 1, 9, 27 and some for the last one: 40 is not too many, 41 is. */
    private static RatePlans partOf(int last) {
        RatePlans x = of(5);
        x.channel(0, 1, 9, 1, 0);
        x.channel(1, 2, 3, 1, 0);
        x.channel(0, 3, last, 1, 0);
        x.channel(1, 0, 1, 9, 9);
        x.channel(2, 1, 1, 3, 27);
        x.channel(3, 0, 1, last, last);
        return x;
    }

    private static void promise10TooMany() {
        paceIs("40 in a part", partOf(3), 0, 27, 1);
        dueThrow("41 in a part", () -> partOf(4).pace(2, 0), ARITHMETIC);
        dueThrow("41 in a part", () -> partOf(4).pace(0, 1), ARITHMETIC);
        paceIs("41 in another part", partOf(4), 4, 1, 1);
        RatePlans open = partOf(4);
        open.channel(3, 4, 1, 1, 0);
        dueThrow("too many is asked last: not closed", () -> open.pace(0, 0), STATE);
        RatePlans dead = partOf(4);
        dead.channel(4, 4, 1, 1, 0);
        dueThrow("too many is asked last: not alive", () -> dead.pace(0, 0), STATE);
        dueThrow("no such what comes first", () -> dead.pace(0, 2), NO_SUCH);
    }

    private static void promise10PaceOfPlainLoops() {
        RatePlans x = of(3);
        x.time(0, 4);
        x.time(1, 2);
        x.time(2, 1);
        x.channel(0, 1, 1, 1, 0);
        x.channel(1, 2, 1, 1, 0);
        x.channel(2, 0, 1, 1, 1);
        paceIs("one token on a loop of 7", x, 2, 7, 1);
        x.graph(3);
        x.time(0, 3);
        x.time(1, 2);
        x.time(2, 2);
        x.channel(0, 1, 1, 1, 0);
        x.channel(1, 2, 1, 1, 1);
        x.channel(2, 0, 1, 1, 1);
        paceIs("two tokens on a loop of 7", x, 0, 7, 2);
        x.channel(1, 0, 1, 1, 1);
        paceIs("a loop of 5 within it", x, 1, 5, 1);
        x.graph(8);
        for (int a = 0; a < 8; a++) {
            x.time(a, a == 0 ? 9 : 8);
            x.channel(a, (a + 1) % 8, 1, 1, a < 6 ? 1 : 0);
        }
        paceIs("six tokens on a loop of 65", x, 5, 65, 6);
        x.graph(5);
        for (int a = 0; a < 5; a++) {
            x.time(a, a == 2 ? 2 : 3);
            x.channel(a, (a + 1) % 5, 1, 1, a == 4 ? 4 : 0);
        }
        paceIs("four tokens on a loop of 14, in lowest terms", x, 3, 7, 2);
        x.graph(1);
        x.time(0, 7);
        x.channel(0, 0, 1, 1, 99);
        paceIs("one at a time, whatever lies there", x, 0, 7, 1);
    }

    private static void promise10PaceOfRates() {
        // With 4: actor 0 works 0-3, 3-6, actor 1 6-8, 0 8-11, 1 11-13; then all is as at first.
        // With 5: when 0 ends at 6 and at 17, the same tokens lie there; 0 began at 8, 11, 14 in between.
        // With 6: 0 never waits.
        int[][] tokensAndPace = {{4, 13}, {5, 11}, {6, 9}, {99, 9}};
        for (int[] row : tokensAndPace) {
            RatePlans x = closedPair(3, 2, row[0]);
            x.time(0, 3);
            x.time(1, 2);
            paceIs("counts 3 and 2, tokens " + row[0], x, 0, row[1], 1);
            paceIs("counts 3 and 2, tokens " + row[0], x, 1, row[1], 1);
        }
        RatePlans self = closedPair(1, 2, 2);
        self.time(0, 2);
        self.time(1, 5);
        paceIs("counts 1 and 2 in one loop", self, 0, 12, 1);
        self.channel(1, 1, 3, 3, 5);
        paceIs("a channel to itself is no hindrance", self, 0, 12, 1);
    }

    private static void promise10PaceOfParts() {
        RatePlans x = of(5);
        x.time(0, 2);
        x.time(2, 3);
        x.time(4, 9);
        x.channel(0, 2, 1, 1, 1);
        x.channel(2, 0, 1, 1, 0);
        x.channel(1, 3, 1, 1, 3);
        x.channel(3, 1, 1, 1, 0);
        paceIs("one part", x, 0, 5, 1);
        paceIs("another part", x, 1, 1, 1);
        paceIs("the first again", x, 2, 5, 1);
        paceIs("an actor alone", x, 4, 9, 1);
        paceIs("another again", x, 3, 1, 1);
    }

    private static void promise10PaceForgetsNothing() {
        RatePlans x = of(2);
        x.channel(0, 1, 1, 1, 0);
        x.channel(1, 0, 1, 1, 1);
        paceIs("times 1 and 1", x, 0, 2, 1);
        x.time(1, 6);
        paceIs("times 1 and 6", x, 0, 7, 1);
        x.time(1, 0);
        paceIs("no time 0", x, 0, 7, 1);
        x.channel(1, 0, 1, 1, 0);
        dueThrow("a channel without tokens", () -> x.pace(0, 0), STATE);
        x.graph(2);
        paceIs("a new graph", x, 0, 1, 1);
    }

    private static void promise11Room() {
        RatePlans x = of(3);
        x.channel(0, 1, 2, 3, 0);
        due("a chain without its end", () -> x.room(), -1);
        x.channel(1, 2, 1, 2, 0);
        due("counts 3, 2, 1", () -> x.room(), 8);
        x.graph(2);
        x.channel(0, 1, 4, 6, 0);
        due("counts 3, 2", () -> x.room(), 12);
        x.graph(4);
        x.channel(0, 1, 1, 2, 0);
        x.channel(1, 2, 3, 1, 0);
        x.channel(2, 3, 1, 3, 0);
        // Counts 2, 1, 3, 1: cuts at 0, 1 and 2 give 2 + 6, 2 + 3 + 3 and 5 + 3.
        due("counts 2, 1, 3, 1", () -> x.room(), 8);
        x.graph(4);
        x.channel(0, 1, 1, 1, 0);
        x.channel(1, 2, 2, 1, 0);
        x.channel(2, 3, 2, 1, 0);
        // Counts 1, 1, 2, 4: 2, 3 by twos need 2, then 2 and 1.
        due("counts 1, 1, 2, 4", () -> x.room(), 5);
        x.graph(1);
        due("one actor", () -> x.room(), 0);
    }

    private static void promise11NoRoom() {
        RatePlans x = of(2);
        due("no channel", () -> x.room(), -1);
        x.channel(0, 1, 1, 1, 1);
        due("tokens", () -> x.room(), -1);
        x.graph(2);
        x.channel(1, 0, 1, 1, 0);
        due("the wrong way", () -> x.room(), -1);
        x.graph(2);
        x.channel(0, 1, 1, 1, 0);
        due("a chain", () -> x.room(), 1);
        x.channel(0, 1, 1, 1, 0);
        due("a channel too many", () -> x.room(), -1);
        x.graph(3);
        x.channel(1, 2, 1, 1, 0);
        x.channel(0, 1, 1, 1, 0);
        due("channels in another order", () -> x.room(), -1);
        x.graph(3);
        x.channel(0, 1, 1, 1, 0);
        x.channel(0, 2, 1, 1, 0);
        due("both from one actor", () -> x.room(), -1);
        x.graph(3);
        x.channel(0, 2, 1, 1, 0);
        x.channel(1, 2, 1, 1, 0);
        due("both to one actor", () -> x.room(), -1);
        x.graph(1);
        x.channel(0, 0, 1, 1, 0);
        due("a channel to itself", () -> x.room(), -1);
        due("a great chain", () -> greatOne().room(), -1);
        due("an uneven graph", () -> unevenOne().room(), -1);
    }

    private static void promise12Total() {
        RatePlans x = of(6);
        x.channel(3, 0, 2, 1, 0);
        x.channel(5, 3, 1, 1, 0);
        x.channel(1, 1, 1, 1, 1);
        totals("parts 0 3 5, 1, 2, 4", x, 6, 3, 4, 7);
        x.channel(4, 1, 1, 3, 0);
        x.channel(1, 4, 3, 1, 2);
        totals("not alive: what is done counts", x, 6, 5, 3, 7);
        due("total(4)", () -> x.total(4), -1);
        for (int w : WRONG) {
            due("total of no what", () -> x.total(w), -1);
        }
        totals("an uneven graph", unevenOne(), 2, 2, 1, 0);
        totals("a great graph", greatOne(), 4, 3, 1, 0);
        RatePlans both = unevenOne();
        both.graph(3);
        both.channel(0, 0, 1, 2, 0);
        totals("uneven, in two parts", both, 3, 1, 3, 0);
        both.channel(1, 2, 1, 1, 0);
        totals("parts are bound when it is uneven, too", both, 3, 2, 2, 0);
    }
}
