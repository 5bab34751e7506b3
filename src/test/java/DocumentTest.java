/**
 * The document from its first line to its last: each sentence that says what a call answers, throws or changes,
 * quoted as the title of the runs that show it. The answers are worked out by hand. What lies on both sides of each
 * boundary stands in ChangeBoundariesTest and AnswerBoundariesTest.
 */
public final class DocumentTest {
    /** Counts 2 and 1, with times 2 and 3, and without a way back. */
    private static final String PAIR = """
        graph 2 = true
        time 0 2 = true
        time 1 3 = true
        channel 0 1 1 2 0 = 0
        """;
    private static final String UNEVEN = """
        graph 3 = true
        channel 0 1 3 1 9 = 0
        channel 0 1 3 2 9 = 1
        """;
    /** Counts 1, 8, 64 and 512. */
    private static final String GREAT = """
        graph 4 = true
        channel 0 1 8 1 0 = 0
        channel 1 2 8 1 0 = 1
        channel 2 3 8 1 0 = 2
        """;
    /** Counts 2 and 5, of which actor 0 is done once, and 1 never. Actor 2 is alone, and is done. */
    private static final String STUCK = """
        graph 3 = true
        channel 0 1 5 2 0 = 0
        channel 1 0 2 5 9 = 1
        channel 1 1 1 1 0 = 2
        """;
    /** Counts 42, 1, 1 and 6: actors 0, 1 and 3 are a closed part, and actor 2 is alone. */
    private static final String MANY = """
        graph 4 = true
        channel 1 3 6 1 0 = 0
        channel 3 1 1 6 6 = 1
        channel 3 0 7 1 0 = 2
        channel 0 3 1 7 42 = 3
        """;

    public static void main(String[] args) {
        whatItIs();
        actors();
        channels();
        done();
        parts();
        counts();
        uneven();
        great();
        round();
        alive();
        peaks();
        closed();
        work();
        pace();
        chain();
        room();
        promise1();
        promise2();
        promise3();
        promise4();
        promise5();
        promise6();
        promise7();
        promise8();
        promise9();
        promise10Answers();
        promise10Throws();
        promise11();
        promise12();
        Runs.end();
    }

    private static void whatItIs() {
        String sentence = "An object is used for at most 512 calls after it has been made; what later calls answer is free.";
        // Counts 2 and 3. Both begin at 1 and at 4, and 1 token lies there; with time 9, both begin at 9 and at 28.
        String eight = """
            graph 2 = true
            channel 0 1 3 2 0 = 0
            order 4 = 1
            pace 0 0 = IllegalStateException
            channel 1 0 2 3 6 = 1
            pace 0 0 = 3
            time 0 9 = true
            pace 0 0 = 19
            """;
        Runs.run(sentence, eight.repeat(512 / 8));
    }

    private static void actors() {
        String sentence = "ACTORS 0 .. n - 1 (n is 1 .. 8), each with a TIME 1 .. 9 (at first 1).";
        for (int n = 1; n <= 8; n++) {
            Runs.run(sentence, "graph " + n + " = true", "total 0 = " + n, "left -1 = -1");
            for (int actor = 0; actor < n; actor++) {
                Runs.run(sentence, "graph " + n + " = true", "count " + actor + " = 1", "pace " + actor + " 0 = 1");
            }
            Runs.run(sentence, "graph " + n + " = true", "count " + n + " = -1", "time " + n + " 1 = false");
        }
        Runs.run(sentence, "graph 0 = false", "graph 9 = false", "time 0 0 = false", "time 0 10 = false",
            "time 0 9 = true", "pace 0 0 = 9", "time 0 1 = true", "pace 0 0 = 1");
    }

    private static void channels() {
        String sentence = "CHANNELS are numbered from 0 on, at most 14: from an ACTOR to one (itself, too), with PUTS and TAKES "
            + "1 .. 9, and TOKENS 0 .. 99 that lie there at first.";
        StringBuilder fourteen = new StringBuilder("graph 8 = true\n");
        for (int c = 0; c < 14; c++) {
            String ends = c < 7 ? c + " " + (c + 1) : c - 6 + " " + (c - 6);
            fourteen.append("channel ").append(ends).append(" 9 9 ").append(99 - c).append(" = ").append(c).append('\n');
        }
        Runs.run(sentence, fourteen.toString(), "channel 0 0 1 1 1 = -1", "total 1 = 14", "total 2 = 1", "uneven = -1",
            "peak 0 = 108", "peak 6 = 102", "peak 7 = 92", "peak 13 = 86", "peak 14 = -1");
        Runs.run(sentence, "channel 0 0 0 1 0 = -1", "channel 0 0 1 0 0 = -1", "channel 0 0 10 1 0 = -1",
            "channel 0 0 1 10 0 = -1", "channel 0 0 1 1 -1 = -1", "channel 0 0 1 1 100 = -1", "channel 0 0 1 1 0 = 0",
            "channel 0 0 9 9 99 = 1", "peak 0 = 0", "peak 1 = 99");
    }

    private static void done() {
        String sentence = "An ACTOR is done: from each CHANNEL to it as many TOKENS are taken as that TAKES; then to each CHANNEL "
            + "from it as many are put as that PUTS.";
        // 0 takes 4 of 5; 1 must wait until 2 puts 3 to 1; then it takes on three channels and puts on three.
        Runs.run(sentence, """
            graph 4 = true
            channel 0 1 2 2 0 = 0
            channel 2 1 3 3 1 = 1
            channel 1 3 1 1 0 = 2
            channel 1 0 4 4 5 = 3
            channel 1 1 2 2 3 = 4
            order 0 = 0
            order 1 = 2
            order 2 = 1
            order 3 = 3
            order 4 = NoSuchElementException
            peak 0 = 2
            peak 1 = 4
            peak 2 = 1
            peak 3 = 5
            peak 4 = 3
            """);
        // On the channel lie 3, 1, 4, 2, 0, 3: taken are 2 at a time, put 3.
        Runs.run(sentence, """
            graph 2 = true
            channel 1 0 3 2 3 = 0
            order 0 = 0
            order 1 = 1
            order 2 = 0
            order 3 = 0
            order 4 = 1
            order 5 = NoSuchElementException
            peak 0 = 4
            """);
        // First it takes, then it puts: with 3 tokens it can't be done, though it puts 4.
        Runs.run(sentence, "channel 0 0 4 4 3 = 0", "left 0 = 1", "order 0 = NoSuchElementException");
    }

    private static void parts() {
        String sentence = "A PART: an ACTOR and all that CHANNELS, whichever way they go, bind to it, again and again.";
        // 6 - 2 - 5 by channels that both go to 2, 1 - 4 - 0 by ones that both go from 4, 3 to itself, 7 to none.
        Runs.run(sentence, """
            graph 8 = true
            channel 6 2 1 2 0 = 0
            channel 5 2 1 3 0 = 1
            channel 4 1 1 1 0 = 2
            channel 4 0 5 1 0 = 3
            channel 3 3 1 1 1 = 4
            total 2 = 4
            count 6 = 2
            count 2 = 1
            count 5 = 3
            count 4 = 1
            count 1 = 1
            count 0 = 5
            channel 0 6 2 1 0 = 5
            total 2 = 3
            count 6 = 10
            count 2 = 5
            count 5 = 15
            count 4 = 1
            count 1 = 1
            count 0 = 5
            count 3 = 1
            count 7 = 1
            """);
    }

    private static void counts() {
        String sentence = "COUNTS: of each PART the least whole numbers above 0, one for each ACTOR, so that for each CHANNEL the "
            + "COUNT of from times PUTS is that of to times TAKES.";
        // 4 * 9 = 6 * 6, 6 * 5 = 5 * 6 and 9 * 8 = 8 * 9; the parts of 3, 4 and of 5 have counts of their own.
        Runs.run(sentence, """
            graph 6 = true
            channel 0 1 9 6 0 = 0
            count 0 = 2
            count 1 = 3
            channel 2 1 6 5 0 = 1
            count 0 = 4
            count 1 = 6
            count 2 = 5
            channel 3 4 8 9 0 = 2
            count 3 = 9
            count 4 = 8
            count 5 = 1
            channel 2 0 4 5 7 = 3
            uneven = -1
            count 0 = 4
            count 1 = 6
            count 2 = 5
            """);
        // 8, 4 and 6 would do, too: but they have 2 in common.
        Runs.run(sentence, """
            graph 3 = true
            channel 0 1 1 2 0 = 0
            channel 1 2 3 2 0 = 1
            count 0 = 4
            count 1 = 2
            count 2 = 3
            total 3 = 9
            """);
    }

    private static void uneven() {
        String sentence = "UNEVEN is the first CHANNEL with which there are none for it and those ahead of it.";
        // Counts 1, 1, 2 and 2; 4 wants actor 3 as often as 1, and neither do 5 and 6 go with them.
        Runs.run(sentence, """
            graph 4 = true
            channel 0 1 1 1 0 = 0
            channel 1 2 2 1 0 = 1
            uneven = -1
            channel 2 3 1 1 0 = 2
            channel 3 0 1 2 0 = 3
            uneven = -1
            channel 3 1 1 1 0 = 4
            uneven = 4
            channel 0 3 1 1 0 = 5
            channel 2 2 1 9 0 = 6
            uneven = 4
            """);
        Runs.run(sentence, "graph 2 = true", "channel 1 1 5 4 99 = 0", "uneven = 0", "channel 0 0 4 5 99 = 1", "uneven = 0");
    }

    private static void great() {
        String sentence = "All COUNTS together are at most 400: else the graph is GREAT.";
        // Counts 1, 8, 64 and 320 are 393 together, 400 with 7 of actor 4, and 401 with one that is alone, or 8 of 4.
        String channels = """
            channel 0 1 8 1 0 = 0
            channel 1 2 8 1 0 = 1
            channel 2 3 5 1 0 = 2
            """;
        String seven = "channel 0 4 7 1 0 = 3\n";
        Runs.run(sentence, "graph 4 = true", channels, "total 3 = 393", "count 3 = 320", "room = 21");
        Runs.run(sentence, "graph 5 = true", channels, seven, "total 3 = 400", "count 4 = 7", "left 4 = 0", "order 399 = 4");
        Runs.run(sentence, "graph 6 = true", channels, seven, "total 3 = 0", "count 4 = ArithmeticException", "left 4 = -1",
            "order 0 = NoSuchElementException", "peak 0 = -1", "pace 5 0 = IllegalStateException", "uneven = -1");
        Runs.run(sentence, "graph 5 = true", channels, "channel 0 4 8 1 0 = 3", "total 3 = 0",
            "count 4 = ArithmeticException");
    }

    private static void round() {
        String sentence = "A ROUND, by ORDER: again and again, of the ACTORS that were done less than COUNT times, and for which "
            + "on each CHANNEL to it there are as many TOKENS as it TAKES, the least one is done.";
        // Counts 2, 3 and 1. 0 waits for 2; 1 has enough from 2, but waits for 0.
        Runs.run(sentence, """
            graph 3 = true
            channel 0 1 3 2 0 = 0
            channel 2 1 3 1 4 = 1
            channel 2 0 2 1 0 = 2
            order 0 = 2
            order 1 = 0
            order 2 = 0
            order 3 = 1
            order 4 = 1
            order 5 = 1
            order 6 = NoSuchElementException
            """);
        // The least one comes again as soon as it can: with nothing there at first, and with one on each.
        Runs.run(sentence, "graph 3 = true", "channel 1 0 2 1 0 = 0", "channel 2 1 1 2 0 = 1", "order 0 = 2", "order 1 = 2",
            "order 2 = 1", "order 3 = 0", "order 4 = 0", "order 5 = NoSuchElementException");
        Runs.run(sentence, "graph 3 = true", "channel 1 0 2 1 1 = 0", "channel 2 1 1 2 1 = 1", "order 0 = 0", "order 1 = 2",
            "order 2 = 1", "order 3 = 0", "order 4 = 2", "order 5 = NoSuchElementException");
        // Not more than its count, whatever lies there.
        Runs.run(sentence, "graph 2 = true", "channel 1 0 1 1 99 = 0", "order 0 = 0", "order 1 = 1",
            "order 2 = NoSuchElementException");
    }

    private static void alive() {
        String sentence = "ALIVE is a graph all of whose ACTORS are done COUNT times then; else LEFT is how many times each is "
            + "not.";
        // Counts 4, 2 and 1 in a loop: 4 tokens are enough, with 3 one of 1 is done, and 2 waits.
        String loop = "graph 4 = true\nchannel 0 1 1 2 0 = 0\nchannel 1 2 1 2 0 = 1\n";
        Runs.run(sentence, loop, "channel 2 0 4 1 4 = 2", "left 0 = 0", "left 1 = 0", "left 2 = 0", "left 3 = 0", "total 3 = 8",
            "pace 3 0 = 1");
        Runs.run(sentence, loop, "channel 2 0 4 1 3 = 2", "left 0 = 1", "left 1 = 1", "left 2 = 1", "left 3 = 0", "total 3 = 5",
            "pace 3 0 = IllegalStateException");
        Runs.run(sentence, loop, "channel 2 0 4 1 0 = 2", "left 0 = 4", "left 1 = 2", "left 2 = 1", "left 3 = 0", "total 3 = 1",
            "pace 3 0 = IllegalStateException");
        Runs.run(sentence, STUCK, "left 0 = 1", "left 1 = 5", "left 2 = 0");
    }

    private static void peaks() {
        String sentence = "A PEAK: the most TOKENS that lay on a CHANNEL, at first or behind one that was done.";
        // On channel 0 lie 0, 3, 6, 1, 4, 7, 2, 5, 0, and on channel 1 lie 8, 5, 2, 7, 4, 1, 6, 3, 8.
        Runs.run(sentence, """
            graph 2 = true
            channel 1 0 3 5 0 = 0
            channel 0 1 5 3 8 = 1
            order 0 = 1
            order 1 = 1
            order 2 = 0
            order 3 = 1
            order 4 = 1
            order 5 = 0
            order 6 = 1
            order 7 = 0
            peak 0 = 7
            peak 1 = 8
            """);
        Runs.run(sentence, "graph 2 = true", "channel 0 1 7 7 30 = 0", "peak 0 = 37", "channel 0 0 7 7 30 = 1", "peak 1 = 30",
            "channel 1 0 7 7 30 = 2", "peak 2 = 30");
        Runs.run(sentence, STUCK, "peak 0 = 5", "peak 1 = 9", "peak 2 = 0");
    }

    private static void closed() {
        String sentence = "CLOSED is a PART if from each ACTOR of it one comes to each other one along CHANNELS, as they go.";
        // From 0 to 1, 2 and 3, from 1 and 2 to 3; then from 3 to 1, to 2, and to 0.
        Runs.run(sentence, """
            graph 5 = true
            channel 0 1 1 1 5 = 0
            channel 0 2 1 1 5 = 1
            channel 1 3 1 1 5 = 2
            channel 2 3 1 1 5 = 3
            pace 0 0 = IllegalStateException
            pace 4 0 = 1
            channel 3 1 1 1 5 = 4
            channel 3 2 1 1 5 = 5
            pace 0 0 = IllegalStateException
            pace 1 0 = IllegalStateException
            pace 3 0 = IllegalStateException
            channel 3 0 1 1 5 = 6
            pace 0 0 = 1
            pace 1 0 = 1
            pace 3 0 = 1
            """);
        Runs.run(sentence, "graph 2 = true", "channel 0 1 1 1 1 = 0", "channel 1 1 1 1 1 = 1", "channel 0 0 1 1 1 = 2",
            "pace 0 0 = IllegalStateException", "pace 1 0 = IllegalStateException");
    }

    private static void work() {
        String sentence = "At time 0, and whenever TOKENS come, an ACTOR that is not at work, and for which there are enough TOKENS "
            + "on each CHANNEL to it, takes them and is at work; TIME later it puts what it puts, and is not at work any more "
            + "(all that end at one time put, then all begin that can).";
        // With 2: 0 works from 0 to 2 to 4, 1 from 4 to 7, then as at first.
        // With 3: at 4 and at 9 both begin, and nothing lies there. With 4: at 8 and at 12 both begin, and one lies there.
        String[][] tokensAndTime = {{"2", "7"}, {"3", "5"}, {"4", "4"}, {"5", "4"}};
        for (String[] row : tokensAndTime) {
            Runs.run(sentence, PAIR, "channel 1 0 2 1 " + row[0] + " = 1", "pace 0 0 = " + row[1], "pace 0 1 = 1",
                "pace 1 0 = " + row[1], "pace 1 1 = 1");
        }
        // 0 and 1 both end at 4, then 2 can begin, and ends at 5; then 0 and 1 begin.
        Runs.run(sentence, """
            graph 3 = true
            time 0 4 = true
            time 1 4 = true
            channel 0 2 1 1 0 = 0
            channel 1 2 1 1 0 = 1
            channel 2 0 1 1 1 = 2
            channel 2 1 1 1 1 = 3
            pace 0 0 = 5
            time 1 6 = true
            pace 0 0 = 7
            """);
        // Both begin at 0, and whenever both end, at one time.
        Runs.run(sentence, "graph 2 = true", "time 0 6 = true", "time 1 6 = true", "channel 0 1 1 1 1 = 0",
            "channel 1 0 1 1 1 = 1", "pace 0 0 = 6", "pace 1 1 = 1");
        // Its own tokens come when it ends: so it is at work once at a time, as it is without a channel.
        Runs.run(sentence, "time 0 5 = true", "pace 0 0 = 5", "channel 0 0 2 2 2 = 0", "pace 0 0 = 5", "channel 0 0 1 1 99 = 1",
            "pace 0 0 = 5");
    }

    private static void pace() {
        String sentence = "THE PACE of a PART: how much time it takes for a ROUND of it (each ACTOR COUNT times) in the long run, as "
            + "p / q in lowest terms.";
        // A ring of 3, 3 and 1: with two tokens two rounds take 7; with three, 0 and 1 alone need 3.
        String ring = "graph 3 = true\ntime 0 3 = true\ntime 1 3 = true\nchannel 0 1 1 1 0 = 0\nchannel 1 2 1 1 0 = 1\n";
        Runs.run(sentence, ring, "channel 2 0 1 1 1 = 2", "pace 0 0 = 7", "pace 0 1 = 1");
        Runs.run(sentence, ring, "channel 2 0 1 1 2 = 2", "pace 0 0 = 7", "pace 0 1 = 2", "pace 2 0 = 7", "pace 2 1 = 2");
        Runs.run(sentence, ring, "channel 2 0 1 1 3 = 2", "pace 0 0 = 3", "pace 0 1 = 1");
        // With 3, 3 and 2, two rounds take 8: 4 / 1.
        Runs.run(sentence, ring, "channel 2 0 1 1 2 = 2", "time 2 2 = true", "pace 0 0 = 4", "pace 0 1 = 1");
        // Tokens on the way at first are only for the beginning: the loop has two in all, wherever they lie.
        Runs.run(sentence, "graph 3 = true", "time 0 3 = true", "time 1 3 = true", "channel 0 1 1 1 1 = 0",
            "channel 1 2 1 1 0 = 1", "channel 2 0 1 1 1 = 2", "pace 1 0 = 7", "pace 1 1 = 2");
        // A round of the part is five times actor 0 and four times actor 1: 20 and 12 alone.
        Runs.run(sentence, "graph 2 = true", "time 0 4 = true", "time 1 3 = true", "channel 0 1 4 5 99 = 0",
            "channel 1 0 5 4 99 = 1", "pace 0 0 = 20", "pace 1 0 = 20", "pace 1 1 = 1", "time 1 9 = true", "pace 0 0 = 36");
        // Each part has its own.
        Runs.run(sentence, PAIR.replace("graph 2", "graph 3"), "channel 1 0 2 1 3 = 1", "time 2 8 = true", "pace 0 0 = 5",
            "pace 2 0 = 8", "pace 1 0 = 5");
    }

    private static void chain() {
        String sentence = "A CHAIN: CHANNELS are n - 1, CHANNEL i goes from ACTOR i to ACTOR i + 1, without TOKENS.";
        Runs.run(sentence, """
            room = 0
            graph 3 = true
            room = -1
            channel 0 1 2 1 0 = 0
            room = -1
            channel 1 2 1 2 0 = 1
            room = 4
            channel 0 2 1 1 0 = 2
            room = -1
            """);
        for (String other : new String[] {"1 2 1 2 1", "2 1 2 1 0", "0 2 1 1 0", "1 1 1 1 0", "0 1 2 1 0"}) {
            Runs.run(sentence, "graph 3 = true", "channel 0 1 2 1 0 = 0", "channel " + other + " = 1", "uneven = -1", "room = -1");
        }
        Runs.run(sentence, "graph 3 = true", "channel 1 2 1 2 0 = 0", "channel 0 1 2 1 0 = 1", "room = -1");
    }

    private static void room() {
        String sentence = "The ROOM of ACTORS i .. j of it is 0 for one ACTOR; else the least of all k (i .. j - 1) of the ROOM of i "
            + ".. k, that of k + 1 .. j, and COUNT of k times PUTS of CHANNEL k by the greatest common divisor of the COUNTS of i "
            + ".. j, together.";
        Runs.run(sentence, "graph 1 = true", "room = 0");
        Runs.run(sentence, "graph 2 = true", "channel 0 1 6 4 0 = 0", "count 0 = 2", "room = 12");
        // Counts 1, 2, 4 and 6. By pairs 2, 4 / 2, 12 / 2; 1 .. 3: 6 + 4 / 2; all: 8 + 2, or 2 + 6 + 4, or 4 + 12.
        Runs.run(sentence, "graph 4 = true", "channel 0 1 2 1 0 = 0", "channel 1 2 2 1 0 = 1", "channel 2 3 3 2 0 = 2",
            "count 3 = 6", "room = 10");
        // The same from the other end: the last cut is the best.
        Runs.run(sentence, "graph 4 = true", "channel 0 1 2 3 0 = 0", "channel 1 2 1 2 0 = 1", "channel 2 3 1 2 0 = 2",
            "count 0 = 6", "room = 10");
        // Counts 2, 4, 3 and 6: the cut in the middle, 4 / 2 and 6 / 3 and 12; the others are 18 and 20.
        Runs.run(sentence, "graph 4 = true", "channel 0 1 2 1 0 = 0", "channel 1 2 3 4 0 = 1", "channel 2 3 2 1 0 = 2",
            "count 0 = 2", "count 3 = 6", "room = 16");
        // What is put counts, not how often: 5 at a time.
        Runs.run(sentence, "graph 3 = true", "channel 0 1 5 5 0 = 0", "channel 1 2 4 4 0 = 1", "room = 9");
    }

    private static void promise1() {
        String sentence = "`RatePlans()`: One ACTOR, no CHANNELS.";
        Runs.run(sentence, "total 0 = 1", "total 1 = 0", "total 2 = 1", "total 3 = 1", "uneven = -1", "count 0 = 1", "count 1 = -1",
            "order 0 = 0", "order 1 = NoSuchElementException", "left 0 = 0", "left 1 = -1", "peak 0 = -1", "pace 0 0 = 1",
            "pace 0 1 = 1", "room = 0");
        Runs.run(sentence, "channel 0 0 1 1 1 = 0", "time 0 2 = true", "pace 0 0 = 2");
    }

    private static void promise2() {
        String sentence = "`boolean graph(int n)`: A new graph of n ACTORS: true; false, changing nothing, for another n.";
        for (String state : new String[] {PAIR, UNEVEN, GREAT, STUCK, MANY}) {
            Runs.same(sentence, state + "graph 5 = true", "graph 5 = true");
            for (String n : new String[] {"0", "9", "-1", "-5", "min", "max"}) {
                Runs.changesNothing(sentence, state, "graph " + n, "false", "time 0 7 = true");
            }
        }
        Runs.run(sentence, PAIR, "graph 2 = true", "pace 0 0 = 1", "channel 1 0 1 1 0 = 0", "count 0 = 1");
    }

    private static void promise3() {
        String sentence = "`boolean time(int actor, int time)`: An ACTOR has this TIME from now on: true; false, changing nothing, if "
            + "there is no such ACTOR or TIME.";
        Runs.run(sentence, PAIR, "channel 1 0 2 1 2 = 1", "pace 0 0 = 7", "time 1 9 = true", "pace 0 0 = 13", "time 0 1 = true",
            "pace 0 0 = 11", "pace 1 0 = 11");
        for (String refused : new String[] {"0 0", "0 10", "2 4", "-1 4", "0 min", "0 max", "min 1", "max 1", "8 0"}) {
            Runs.changesNothing(sentence, PAIR + "channel 1 0 2 1 2 = 1", "time " + refused, "false", "time 1 1 = true");
        }
    }

    private static void promise4() {
        String first = "`int channel(int from, int to, int puts, int takes, int tokens)`: A new CHANNEL: its number.";
        Runs.run(first, PAIR, "channel 1 0 2 1 2 = 1", "channel 1 1 3 3 8 = 2", "total 1 = 3", "peak 2 = 8",
            "channel 0 0 1 2 0 = 3", "uneven = 3", "channel 0 1 9 9 9 = 4", "total 1 = 5");
        String none = "NONE, changing nothing, if there are no such ACTORS, numbers, or 14 CHANNELS.";
        String[] refused = {"2 0 1 1 0", "0 2 1 1 0", "-1 0 1 1 0", "0 -1 1 1 0", "0 1 0 1 0", "0 1 10 1 0", "0 1 1 0 0", "0 1 1 10 0",
            "0 1 1 1 -1", "0 1 1 1 100", "min 0 1 1 0", "0 max 1 1 0", "0 1 min 1 0", "0 1 1 max 0", "0 1 1 1 min"};
        for (String numbers : refused) {
            Runs.changesNothing(none, PAIR, "channel " + numbers, "-1", "channel 1 0 2 1 3 = 1");
        }
        StringBuilder full = new StringBuilder("graph 2 = true\n");
        for (int c = 0; c < 14; c++) {
            full.append("channel ").append(c % 2).append(' ').append(1 - c % 2).append(" 1 1 1 = ").append(c).append('\n');
        }
        for (String numbers : new String[] {"0 1 1 1 0", "0 1 1 2 0", "1 1 1 1 1", "5 5 5 5 5"}) {
            Runs.changesNothing(none, full.toString(), "channel " + numbers, "-1", "time 0 5 = true\npace 1 0 = 5");
        }
    }

    private static void promise5() {
        String sentence = "`int uneven()`: The UNEVEN CHANNEL; NONE if there is none.";
        Runs.run(sentence, UNEVEN, "uneven = 1", "channel 2 2 1 3 0 = 2", "uneven = 1", "graph 3 = true", "uneven = -1");
        Runs.run(sentence, GREAT, "uneven = -1");
        Runs.run(sentence, STUCK, "uneven = -1");
        Runs.run(sentence, "uneven = -1", "channel 0 0 7 6 0 = 0", "uneven = 0");
    }

    private static void promise6() {
        String first = "`int count(int actor) throws IllegalStateException, ArithmeticException`: The COUNT of an ACTOR; NONE if "
            + "there is none such.";
        Runs.run(first, MANY, "count 0 = 42", "count 1 = 1", "count 2 = 1", "count 3 = 6", "count 4 = -1", "count -1 = -1",
            "count min = -1", "count max = -1");
        // It is read as the first thing that is asked.
        Runs.run(first, UNEVEN, "count 3 = -1", GREAT, "count 4 = -1", STUCK, "count 0 = 2", "count 1 = 5", "count 3 = -1");
        String thrown = "IllegalStateException: there is an UNEVEN CHANNEL; ArithmeticException: the graph is GREAT.";
        Runs.run(thrown, UNEVEN, "count 0 = IllegalStateException", "count 1 = IllegalStateException",
            "count 2 = IllegalStateException");
        Runs.run(thrown, GREAT, "count 0 = ArithmeticException", "count 3 = ArithmeticException", "channel 3 3 1 2 0 = 3",
            "count 0 = IllegalStateException");
    }

    private static void promise7() {
        String sentence = "`int order(int k) throws NoSuchElementException`: The k-th ACTOR (from 0 on) that is done in a ROUND; "
            + "NoSuchElementException: there is none such (or it is GREAT, or UNEVEN).";
        Runs.run(sentence, MANY, "order 0 = 1", "order 1 = 2", "order 2 = 3", "order 3 = 0", "order 9 = 0", "order 10 = 3",
            "order 49 = 0", "order 50 = NoSuchElementException", "order -1 = NoSuchElementException",
            "order min = NoSuchElementException", "order max = NoSuchElementException");
        Runs.run(sentence, STUCK, "order 0 = 0", "order 1 = 2", "order 2 = NoSuchElementException");
        Runs.run(sentence, GREAT, "order 0 = NoSuchElementException", UNEVEN, "order 0 = NoSuchElementException");
    }

    private static void promise8() {
        String sentence = "`int left(int actor)`: How many times an ACTOR is LEFT (0 for all of an ALIVE graph); NONE if there is "
            + "none such, or the graph is GREAT, or UNEVEN.";
        Runs.run(sentence, MANY, "left 0 = 0", "left 1 = 0", "left 2 = 0", "left 3 = 0", "left 4 = -1", "left -1 = -1");
        Runs.run(sentence, STUCK, "left 0 = 1", "left 1 = 5", "left 2 = 0", "left 3 = -1", "left min = -1", "left max = -1");
        Runs.run(sentence, GREAT, "left 0 = -1", "left 4 = -1", UNEVEN, "left 0 = -1", "left 2 = -1");
    }

    private static void promise9() {
        String sentence = "`int peak(int channel)`: The PEAK of a CHANNEL; NONE if there is none such, or the graph is GREAT, or "
            + "UNEVEN.";
        // 3 puts 7 to 0, which takes them all ahead of the next 7; of the 42 that lie there 3 takes 7 and 0 puts them back.
        Runs.run(sentence, MANY, "peak 0 = 6", "peak 1 = 6", "peak 2 = 7", "peak 3 = 42", "peak 4 = -1", "peak -1 = -1",
            "peak min = -1", "peak max = -1");
        Runs.run(sentence, GREAT, "peak 0 = -1", "peak 3 = -1", UNEVEN, "peak 0 = -1", "peak 1 = -1");
    }

    private static void promise10Answers() {
        String sentence = "`int pace(int actor, int what) throws NoSuchElementException, IllegalStateException, "
            + "ArithmeticException`: THE PACE of the PART of an ACTOR, what 0: p, 1: q.";
        // With three tokens between 0 and 1, neither waits, and 1 needs 6. Of 2 and 3 only one has enough at a time.
        Runs.run(sentence, """
            graph 5 = true
            time 0 5 = true
            time 1 6 = true
            time 2 2 = true
            time 3 9 = true
            time 4 7 = true
            channel 0 1 1 1 2 = 0
            channel 1 0 1 1 1 = 1
            channel 3 2 4 4 3 = 2
            channel 2 3 4 4 4 = 3
            pace 0 0 = 6
            pace 1 0 = 6
            pace 2 0 = 11
            pace 3 0 = 11
            pace 4 0 = 7
            pace 0 1 = 1
            pace 3 1 = 1
            pace 4 1 = 1
            """);
        // Four actors of 5 with three tokens: 20 / 3.
        Runs.run(sentence, "graph 4 = true", "time 0 5 = true", "time 1 5 = true", "time 2 5 = true", "time 3 5 = true",
            "channel 0 1 1 1 1 = 0", "channel 1 2 1 1 1 = 1", "channel 2 3 1 1 1 = 2", "channel 3 0 1 1 0 = 3", "pace 0 0 = 20",
            "pace 0 1 = 3", "pace 3 0 = 20", "pace 3 1 = 3");
    }

    private static void promise10Throws() {
        String sentence = "NoSuchElementException: there is no such ACTOR or what; IllegalStateException: the graph is UNEVEN, "
            + "GREAT, or not ALIVE, or the PART is not CLOSED; ArithmeticException (asked last): the COUNTS of the PART are more "
            + "than 40 together.";
        for (String state : new String[] {PAIR, UNEVEN, GREAT, STUCK, MANY}) {
            Runs.run(sentence, state, "pace 4 0 = NoSuchElementException", "pace -1 0 = NoSuchElementException",
                "pace 0 2 = NoSuchElementException", "pace 0 -1 = NoSuchElementException", "pace min max = NoSuchElementException");
        }
        for (String state : new String[] {PAIR, UNEVEN, GREAT, STUCK}) {
            Runs.run(sentence, state, "pace 0 0 = IllegalStateException", "pace 1 1 = IllegalStateException");
        }
        Runs.run(sentence, UNEVEN, "pace 2 0 = IllegalStateException", STUCK, "pace 2 0 = IllegalStateException");
        Runs.run(sentence, MANY, "pace 0 0 = ArithmeticException", "pace 1 1 = ArithmeticException",
            "pace 3 0 = ArithmeticException", "pace 2 0 = 1", "pace 2 1 = 1");
        Runs.run(sentence, MANY, "channel 2 2 1 1 0 = 4", "pace 0 0 = IllegalStateException");
        Runs.run(sentence, MANY, "channel 2 1 1 1 1 = 4", "pace 0 0 = IllegalStateException");
    }

    private static void promise11() {
        String sentence = "`int room()`: The ROOM of all ACTORS; NONE if the graph is no CHAIN, or GREAT.";
        Runs.run(sentence, PAIR, "room = 2", "channel 1 0 2 1 9 = 1", "room = -1");
        Runs.run(sentence, GREAT, "room = -1", UNEVEN, "room = -1", STUCK, "room = -1", MANY, "room = -1");
    }

    private static void promise12() {
        String sentence = "`int total(int what)`: What 0: ACTORS, 1: CHANNELS, 2: PARTS, 3: ACTORS that are done in a ROUND, all "
            + "together (0 if it is GREAT, or UNEVEN).";
        Runs.run(sentence, MANY, "total 0 = 4", "total 1 = 4", "total 2 = 2", "total 3 = 50");
        Runs.run(sentence, GREAT, "total 0 = 4", "total 1 = 3", "total 2 = 1", "total 3 = 0");
        Runs.run(sentence, UNEVEN, "total 0 = 3", "total 1 = 2", "total 2 = 2", "total 3 = 0");
        // Read as those that are done, not those that should be: of 2 and 5 and 1, one and none and one.
        Runs.run(sentence, STUCK, "total 0 = 3", "total 1 = 3", "total 2 = 2", "total 3 = 2");
        String none = "NONE for another what.";
        for (String state : new String[] {"", MANY, GREAT, UNEVEN, STUCK}) {
            Runs.run(none, state, "total 4 = -1", "total -1 = -1", "total min = -1", "total max = -1");
        }
    }
}
