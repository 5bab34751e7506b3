/**
 * The boundary cases of what changes an object: that it is new, graph, time and channel (promises 1 to 4),
 * and the 512 calls for which it is used. Each method stands for a sentence of the document.
 */
public final class ChangeBoundariesTest {
    /** Two parts that are closed and one that is not, with times, and with answers of every kind. */
    private static final String RICH = """
        graph 6 = true
        time 0 3 = true
        time 1 2 = true
        time 5 9 = true
        channel 0 1 2 3 0 = 0
        channel 1 0 3 2 5 = 1
        channel 2 3 1 4 1 = 2
        channel 4 4 9 9 99 = 3
        """;
    private static final String RICH_LATER = """
        channel 3 2 4 1 8 = 4
        time 2 7 = true
        channel 5 5 1 1 1 = 5
        """;
    private static final String UNEVEN = """
        graph 3 = true
        time 2 4 = true
        channel 0 1 1 1 0 = 0
        channel 1 0 1 2 0 = 1
        """;
    private static final String GREAT = """
        graph 4 = true
        time 3 5 = true
        channel 0 1 9 1 0 = 0
        channel 1 2 9 1 0 = 1
        channel 2 3 9 1 0 = 2
        """;
    private static final String STUCK = """
        graph 3 = true
        time 0 6 = true
        channel 0 1 1 3 0 = 0
        channel 1 0 3 1 2 = 1
        """;
    private static final String CHAIN = """
        graph 3 = true
        time 1 8 = true
        channel 0 1 2 3 0 = 0
        channel 1 2 1 2 0 = 1
        """;
    private static final String[] STATES = {RICH, UNEVEN, GREAT, STUCK, CHAIN};

    public static void main(String[] args) {
        newObjectHasOneActorAndNoChannels();
        newObjectTakesNoOtherActor();
        newObjectSharesNothing();
        graphTakesOneToEightActors();
        graphRefusesAnotherNumber();
        graphForgetsWhatWas();
        timeTakesOneToNine();
        timeIsAtFirstOne();
        timeHoldsFromNowOn();
        timeRefusesAnotherTime();
        timeRefusesAnotherActor();
        channelTakesAllActors();
        channelTakesLeastAndGreatestNumbers();
        channelRefusesOtherActors();
        channelRefusesOtherNumbers();
        channelsAreNumberedToThirteen();
        channelRefusesAFifteenth();
        channelThatIsRefusedBindsNothing();
        channelIsTakenInEachState();
        objectIsUsedFor512Calls();
        Runs.end();
    }

    private static void newObjectHasOneActorAndNoChannels() {
        Runs.run("1: one actor, no channels", """
            total 0 = 1
            total 1 = 0
            total 2 = 1
            total 3 = 1
            uneven = -1
            count 0 = 1
            count 1 = -1
            count -1 = -1
            order 0 = 0
            order 1 = NoSuchElementException
            order -1 = NoSuchElementException
            left 0 = 0
            left 1 = -1
            peak 0 = -1
            peak -1 = -1
            pace 0 0 = 1
            pace 0 1 = 1
            pace 1 0 = NoSuchElementException
            pace -1 0 = NoSuchElementException
            room = 0
            """);
        Runs.same("1: as graph(1)", "", "graph 1 = true");
    }

    private static void newObjectTakesNoOtherActor() {
        Runs.run("1: actor 0 is there", """
            time 0 9 = true
            channel 0 0 1 1 1 = 0
            pace 0 0 = 9
            """);
        for (String refused : new String[] {"time 1 9", "time -1 9"}) {
            Runs.changesNothing("1: no other actor", "", refused, "false", "time 0 2 = true");
        }
        for (String refused : new String[] {"channel 0 1 1 1 1", "channel 1 0 1 1 1", "channel 1 1 1 1 1"}) {
            Runs.changesNothing("1: no other actor", "", refused, "-1", "channel 0 0 1 1 1 = 0");
        }
    }

    private static void newObjectSharesNothing() {
        Player one = new Player();
        for (String call : new String[] {"graph 2", "time 0 9", "channel 0 1 2 1 3", "order 0", "channel 1 1 1 2 0"}) {
            one.ask(call);
        }
        Player other = new Player();
        Runs.check("1: a second object is new", "total 0", other.ask("total 0"), "1");
        Runs.check("1: a second object is new", "total 1", other.ask("total 1"), "0");
        Runs.check("1: a second object is new", "uneven", other.ask("uneven"), "-1");
        Runs.check("1: a second object is new", "pace 0 0", other.ask("pace 0 0"), "1");
        other.ask("graph 5");
        Runs.check("1: the first object stays", "total 0", one.ask("total 0"), "2");
        Runs.check("1: the first object stays", "uneven", one.ask("uneven"), "1");
    }

    private static void graphTakesOneToEightActors() {
        for (int n = 1; n <= 8; n++) {
            int last = n - 1;
            Runs.run("2: graph(" + n + ")",
                "graph " + n + " = true",
                "total 0 = " + n, "total 1 = 0", "total 2 = " + n, "total 3 = " + n,
                "count " + last + " = 1", "count " + n + " = -1",
                "order " + last + " = " + last, "order " + n + " = NoSuchElementException",
                "left " + last + " = 0", "left " + n + " = -1",
                "pace " + last + " 0 = 1", "pace " + n + " 0 = NoSuchElementException",
                "peak 0 = -1", "room = " + (n == 1 ? 0 : -1),
                "time " + last + " 9 = true", "time " + n + " 9 = false",
                "channel " + n + " 0 1 1 1 = -1", "channel 0 " + n + " 1 1 1 = -1",
                "channel " + last + " 0 1 1 1 = 0", "channel 0 " + last + " 1 1 1 = 1",
                "pace 0 0 = 9");
        }
    }

    private static void graphRefusesAnotherNumber() {
        for (int n : Runs.outside(1, 8)) {
            Runs.changesNothing("2: no such n", RICH, "graph " + n, "false", RICH_LATER);
            Runs.changesNothing("2: no such n", "", "graph " + n, "false", "graph 2 = true");
        }
        for (String state : STATES) {
            Runs.changesNothing("2: no such n, in each state", state, "graph 0", "false", "time 0 2 = true");
            Runs.changesNothing("2: no such n, in each state", state, "graph 9", "false", "time 0 2 = true");
        }
    }

    private static void graphForgetsWhatWas() {
        for (String state : STATES) {
            for (int n = 1; n <= 8; n++) {
                String graph = "graph " + n + " = true\n";
                Runs.same("2: a new graph is new, " + n, state + graph, graph);
                Runs.same("2: a channel of a new graph, " + n, state + graph + "channel 0 0 2 2 5 = 0",
                    graph + "channel 0 0 2 2 5 = 0");
            }
        }
        Runs.run("2: answers that were asked for are forgotten, too", STUCK, """
            left 0 = 1
            order 1 = 0
            order 2 = 2
            order 3 = NoSuchElementException
            peak 0 = 2
            graph 3 = true
            left 0 = 0
            order 1 = 1
            order 2 = 2
            order 3 = NoSuchElementException
            peak 0 = -1
            pace 0 0 = 1
            """);
    }

    private static void timeTakesOneToNine() {
        for (int actor = 0; actor < 8; actor += 7) {
            for (int time = 1; time <= 9; time++) {
                Runs.run("3: time " + time, "graph 8 = true", "time " + actor + " " + time + " = true",
                    "pace " + actor + " 0 = " + time, "pace " + actor + " 1 = 1", "pace 3 0 = 1");
            }
        }
        Runs.run("3: all actors have the greatest time, on one loop with one token", """
            graph 8 = true
            time 0 9 = true
            time 1 9 = true
            time 2 9 = true
            time 3 9 = true
            time 4 9 = true
            time 5 9 = true
            time 6 9 = true
            time 7 9 = true
            channel 0 1 1 1 0 = 0
            channel 1 2 1 1 0 = 1
            channel 2 3 1 1 0 = 2
            channel 3 4 1 1 0 = 3
            channel 4 5 1 1 0 = 4
            channel 5 6 1 1 0 = 5
            channel 6 7 1 1 0 = 6
            channel 7 0 1 1 1 = 7
            pace 0 0 = 72
            pace 7 1 = 1
            """);
    }

    private static void timeIsAtFirstOne() {
        for (int n = 1; n <= 8; n++) {
            for (int actor = 0; actor < n; actor++) {
                Runs.run("3: at first 1", "graph " + n + " = true", "pace " + actor + " 0 = 1");
            }
        }
        Runs.run("3: at first 1 in each new graph", """
            graph 2 = true
            time 0 9 = true
            time 1 9 = true
            graph 2 = true
            pace 0 0 = 1
            pace 1 0 = 1
            """);
    }

    private static void timeHoldsFromNowOn() {
        Runs.run("3: from now on, the last one holds", """
            graph 2 = true
            time 1 9 = true
            time 1 1 = true
            pace 1 0 = 1
            time 1 9 = true
            time 1 9 = true
            pace 1 0 = 9
            channel 0 1 1 1 1 = 0     # a channel leaves the times
            channel 1 0 1 1 0 = 1
            pace 0 0 = 10
            time 0 9 = true           # behind the channels, and behind an answer
            pace 0 0 = 18
            pace 1 0 = 18
            """);
        Runs.run("3: nothing but the pace comes from a time", CHAIN, """
            time 0 9 = true
            count 0 = 3
            order 2 = 0
            order 3 = 1
            peak 0 = 6
            room = 8
            total 3 = 6
            """);
    }

    private static void timeRefusesAnotherTime() {
        for (int time : Runs.outside(1, 9)) {
            Runs.changesNothing("3: no such time", RICH, "time 0 " + time, "false", RICH_LATER);
            Runs.changesNothing("3: no such time", RICH, "time 5 " + time, "false", RICH_LATER);
        }
        for (String state : STATES) {
            Runs.run("3: the nearest times, in each state", state,
                "time 0 0 = false", "time 0 10 = false", "time 0 1 = true", "time 0 9 = true");
        }
    }

    private static void timeRefusesAnotherActor() {
        for (int actor : Runs.outside(0, 5)) {
            Runs.changesNothing("3: no such actor", RICH, "time " + actor + " 4", "false", RICH_LATER);
        }
        String fewer = "graph 8 = true\ntime 2 5 = true\ngraph 2 = true\n";
        Runs.changesNothing("3: an actor of the graph ahead", fewer, "time 2 4", "false", "graph 8 = true");
        Runs.changesNothing("3: an actor of the graph ahead", fewer, "time 7 4", "false", "graph 8 = true");
        Runs.changesNothing("3: neither actor nor time", RICH, "time 6 10", "false", RICH_LATER);
        Runs.changesNothing("3: neither actor nor time", RICH, "time min max", "false", RICH_LATER);
        for (String state : STATES) {
            Runs.changesNothing("3: no such actor, in each state", state, "time -1 9", "false", "time 0 2 = true");
            Runs.changesNothing("3: no such actor, in each state", state, "time 8 9", "false", "time 0 2 = true");
        }
    }

    private static void channelTakesAllActors() {
        for (int from = 0; from < 8; from++) {
            for (int to = 0; to < 8; to++) {
                boolean self = from == to;
                // A channel to itself needs as many put as taken; two actors need 2 of one and 3 of the other.
                Runs.run("4: from " + from + " to " + to,
                    "graph 8 = true",
                    "channel " + from + " " + to + (self ? " 2 2 2 = 0" : " 3 2 0 = 0"),
                    "uneven = -1",
                    "total 1 = 1",
                    "total 2 = " + (self ? 8 : 7),
                    "count " + from + " = " + (self ? 1 : 2),
                    "count " + to + " = " + (self ? 1 : 3),
                    "peak 0 = " + (self ? 2 : from < to ? 6 : 4),
                    "left " + to + " = 0");
            }
        }
    }

    private static void channelTakesLeastAndGreatestNumbers() {
        Runs.run("4: puts 9, takes 1, tokens 0", """
            graph 2 = true
            channel 0 1 9 1 0 = 0
            count 0 = 1
            count 1 = 9
            peak 0 = 9
            """);
        Runs.run("4: puts 1, takes 9, tokens 99", """
            graph 2 = true
            channel 0 1 1 9 99 = 0
            count 0 = 9
            count 1 = 1
            peak 0 = 108
            """);
        Runs.run("4: puts and takes 1", "graph 2 = true", "channel 0 1 1 1 0 = 0", "total 3 = 2", "peak 0 = 1");
        Runs.run("4: puts and takes 9", "graph 2 = true", "channel 0 1 9 9 0 = 0", "total 3 = 2", "peak 0 = 9");
        Runs.run("4: tokens 0", "channel 0 0 1 1 0 = 0", "left 0 = 1", "peak 0 = 0");
        Runs.run("4: tokens 1", "channel 0 0 1 1 1 = 0", "left 0 = 0", "peak 0 = 1");
        Runs.run("4: tokens 98", "channel 0 0 1 1 98 = 0", "left 0 = 0", "peak 0 = 98");
        Runs.run("4: tokens 99", "channel 0 0 1 1 99 = 0", "left 0 = 0", "peak 0 = 99");
        for (int rate = 1; rate <= 9; rate++) {
            Runs.run("4: each puts and takes", "graph 3 = true", "channel 0 1 " + rate + " 1 0 = 0",
                "channel 2 0 1 " + rate + " 0 = 1", "count 1 = " + rate, "count 0 = 1", "count 2 = " + rate);
        }
    }

    private static void channelRefusesOtherActors() {
        for (int actor : Runs.outside(0, 5)) {
            Runs.changesNothing("4: no such from", RICH, "channel " + actor + " 0 1 1 0", "-1", RICH_LATER);
            Runs.changesNothing("4: no such to", RICH, "channel 5 " + actor + " 1 1 0", "-1", RICH_LATER);
            Runs.changesNothing("4: neither", RICH, "channel " + actor + " " + actor + " 1 2 0", "-1", RICH_LATER);
        }
        String fewer = "graph 8 = true\nchannel 7 7 1 1 0 = 0\ngraph 2 = true\n";
        for (String refused : new String[] {"channel 0 2 1 1 0", "channel 2 0 1 1 0", "channel 7 7 1 1 0"}) {
            Runs.changesNothing("4: an actor of the graph ahead", fewer, refused, "-1", "channel 0 1 1 1 0 = 0");
        }
    }

    private static void channelRefusesOtherNumbers() {
        for (int rate : Runs.outside(1, 9)) {
            Runs.changesNothing("4: no such puts", RICH, "channel 5 0 " + rate + " 1 0", "-1", RICH_LATER);
            Runs.changesNothing("4: no such puts", RICH, "channel 0 0 " + rate + " 9 99", "-1", RICH_LATER);
            Runs.changesNothing("4: no such takes", RICH, "channel 5 0 1 " + rate + " 0", "-1", RICH_LATER);
            Runs.changesNothing("4: no such takes", RICH, "channel 0 0 9 " + rate + " 99", "-1", RICH_LATER);
        }
        for (int tokens : Runs.outside(0, 99)) {
            Runs.changesNothing("4: no such tokens", RICH, "channel 5 0 1 1 " + tokens, "-1", RICH_LATER);
            Runs.changesNothing("4: no such tokens", RICH, "channel 0 0 1 9 " + tokens, "-1", RICH_LATER);
        }
        Runs.changesNothing("4: none such at all", RICH, "channel min max min max min", "-1", RICH_LATER);
        for (String state : STATES) {
            for (String refused : new String[] {"channel 0 0 0 1 0", "channel 0 0 1 10 0", "channel 0 0 1 1 100"}) {
                Runs.changesNothing("4: refused in each state", state, refused, "-1", "time 0 2 = true");
            }
        }
    }

    /** So many channels between actors 0 and 1, each with as many tokens as its number. */
    private static String channels(int most) {
        StringBuilder text = new StringBuilder("graph 2 = true\n");
        for (int c = 0; c < most; c++) {
            text.append("channel 0 1 1 1 ").append(c).append(" = ").append(c).append('\n');
        }
        return text.toString();
    }

    private static void channelsAreNumberedToThirteen() {
        Runs.run("4: fourteen channels", channels(14), """
            total 1 = 14
            peak 0 = 1
            peak 13 = 14
            peak 14 = -1
            uneven = -1
            """);
        Runs.run("4: thirteen channels, and the last one", channels(13), """
            total 1 = 13
            peak 12 = 13
            peak 13 = -1
            channel 0 1 1 1 0 = 13
            total 1 = 14
            peak 13 = 1
            """);
        StringBuilder selves = new StringBuilder("graph 8 = true\n");
        for (int c = 0; c < 14; c++) {
            selves.append("channel 7 7 9 9 99 = ").append(c).append('\n');
        }
        Runs.run("4: fourteen from an actor to itself", selves.toString(), """
            channel 7 7 9 9 99 = -1
            total 2 = 8
            peak 13 = 99
            pace 7 0 = 1
            """);
        Runs.run("4: a refused one takes no number", channels(13), """
            channel 0 1 1 1 100 = -1
            channel 0 2 1 1 0 = -1
            channel 0 1 1 1 50 = 13
            channel 0 1 1 1 50 = -1
            """);
    }

    private static void channelRefusesAFifteenth() {
        String full = channels(14);
        String[] refused = {
            "channel 0 1 1 1 0",     // a good one
            "channel 0 1 1 2 0",     // it would be uneven
            "channel 1 0 1 1 0",     // no round could be done with it
            "channel 1 0 1 1 5",     // the part would be closed with it
            "channel 0 1 1 1 99",    // it would have the greatest peak
            "channel 2 0 1 1 0",     // wrong in itself
            "channel 0 0 0 1 0",
            "channel min min min min min",
            "channel max max max max max",
        };
        for (String call : refused) {
            Runs.changesNothing("4: fourteen are there", full, call, "-1", "time 0 2 = true");
            Runs.changesNothing("4: fourteen are there", full, call, "-1",
                "graph 2 = true\nchannel 0 1 1 1 0 = 0\nchannel 1 0 1 1 3 = 1");
        }
        Runs.run("4: fourteen again in a new graph", full, "graph 2 = true", channels(14), "channel 0 1 1 1 0 = -1");
    }

    private static void channelThatIsRefusedBindsNothing() {
        String two = "graph 2 = true\n";
        String bind = "total 2 = 2\nchannel 0 1 9 1 0 = 0\ncount 1 = 9\ntotal 2 = 1";
        Runs.changesNothing("4: no part is bound", two, "channel 0 1 10 1 0", "-1", bind);
        Runs.changesNothing("4: no part is bound", two, "channel 0 1 1 1 100", "-1", bind);
        Runs.changesNothing("4: no part is bound", two, "channel 1 0 1 1 -1", "-1", bind);
        Runs.changesNothing("4: none gets uneven", two, "channel 0 0 1 10 0", "-1", bind);
        Runs.changesNothing("4: none gets uneven", two, "channel 0 0 0 1 0", "-1", bind);
        Runs.changesNothing("4: none gets stuck", two, "channel 0 0 1 1 -1", "-1", bind);
        Runs.changesNothing("4: a chain stays one", CHAIN, "channel 2 3 1 1 0", "-1", "room = 8");
        Runs.changesNothing("4: a graph does not get great", """
            graph 3 = true
            channel 0 1 9 1 0 = 0
            channel 1 2 9 1 0 = 1
            """, "channel 1 2 99 1 0", "-1", "room = 18\ntotal 3 = 91");
    }

    private static void channelIsTakenInEachState() {
        Runs.run("4: uneven, and more", UNEVEN, "channel 2 2 1 1 1 = 2", "channel 0 2 9 9 99 = 3", """
            total 1 = 4
            total 2 = 1
            uneven = 1
            """);
        Runs.run("4: great, and more", GREAT, "channel 3 0 1 9 0 = 3", "channel 0 0 1 1 0 = 4", """
            total 1 = 5
            uneven = 3
            """);
        Runs.run("4: stuck, and more", STUCK, "channel 2 2 1 1 1 = 2", """
            total 1 = 3
            left 2 = 0
            left 0 = 1
            """);
    }

    /** The 512th call is answered as any other, whichever call it is. */
    private static void objectIsUsedFor512Calls() {
        String[] lasts = {
            "graph 8 = true", "graph 9 = false", "time 1 9 = true", "time 1 10 = false", "channel 0 1 9 9 99 = 2",
            "channel 0 1 9 9 100 = -1", "uneven = -1", "count 0 = 3", "order 4 = 1", "order 5 = NoSuchElementException",
            "left 1 = 0", "peak 1 = 6", "pace 0 0 = 9", "pace 0 2 = NoSuchElementException", "room = -1", "total 3 = 5",
        };
        StringBuilder changes = new StringBuilder();
        for (int k = 0; k < 506 / 2; k++) {
            changes.append("graph ").append(k % 8 + 1).append(" = true\n").append("channel 0 0 1 1 0 = 0\n");
        }
        String[] ahead = {
            "count 0 = 1\n".repeat(506), "pace 1 1 = NoSuchElementException\n".repeat(506), "graph 0 = false\n".repeat(506),
            "channel 0 0 1 1 100 = -1\n".repeat(506), "time 0 9 = true\n".repeat(506), changes.toString(),
        };
        String last = """
            graph 2 = true
            time 0 3 = true
            time 1 2 = true
            channel 0 1 2 3 0 = 0
            channel 1 0 3 2 6 = 1
            """;
        for (String many : ahead) {
            for (String call : lasts) {
                Runs.run("the 512th call", many, last, call);
            }
        }
    }
}
