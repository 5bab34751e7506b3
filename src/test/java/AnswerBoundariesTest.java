/**
 * The boundary cases of what an object answers: uneven, count, order, left, peak, pace, room and total
 * (promises 5 to 12). Each method stands for a sentence of the document.
 */
public final class AnswerBoundariesTest {
    private static final String NO_SUCH = " = NoSuchElementException\n";
    private static final String STATE = " = IllegalStateException\n";
    private static final String ARITHMETIC = " = ArithmeticException\n";

    /** Counts 3, 2 and 1. */
    private static final String CHAIN = """
        graph 3 = true
        channel 0 1 2 3 0 = 0
        channel 1 2 1 2 0 = 1
        """;
    /** Counts 1, 7, 49 and 343: 400 together. */
    private static final String FOUR_HUNDRED = """
        graph 4 = true
        channel 0 1 7 1 0 = 0
        channel 1 2 7 1 0 = 1
        channel 2 3 7 1 0 = 2
        """;
    /** Counts 2, 7, 49 and 343: 401 together, in one part. */
    private static final String ONE_MORE = """
        graph 4 = true
        channel 0 1 7 2 0 = 0
        channel 1 2 7 1 0 = 1
        channel 2 3 7 1 0 = 2
        """;
    /** The channels of counts 4, 10, 70 and 315: 399 together. */
    private static final String ONE_LESS = """
        channel 0 1 5 2 0 = 0
        channel 1 2 7 1 0 = 1
        channel 2 3 9 2 0 = 2
        """;
    /** 400 together, in two parts. */
    private static final String TWO_PARTS = "graph 5 = true\n" + ONE_LESS;
    /** 401 together, in three parts. */
    private static final String THREE_PARTS = "graph 6 = true\n" + ONE_LESS;
    /** Actor 2 is bound to none. */
    private static final String UNEVEN = """
        graph 3 = true
        channel 0 1 1 1 5 = 0
        channel 1 0 2 3 5 = 1
        """;
    /** As UNEVEN, but for one that is taken more. */
    private static final String NEARLY_UNEVEN = """
        graph 3 = true
        channel 0 1 1 1 5 = 0
        channel 1 0 2 2 5 = 1
        """;
    /** Actors 0 and 1 have counts 3 and 1; 0 is done twice, and actor 2 once. */
    private static final String STUCK = """
        graph 3 = true
        channel 0 1 1 3 0 = 0
        channel 1 0 3 1 2 = 1
        """;
    private static final String[] STATES = {
        CHAIN, FOUR_HUNDRED, ONE_MORE, TWO_PARTS, THREE_PARTS, UNEVEN, NEARLY_UNEVEN, STUCK,
    };

    public static void main(String[] args) {
        unevenIsNoneIfThereIsNone();
        unevenIsEachNumberOfAChannel();
        unevenIsTheFirst();
        unevenHoldsForGreatGraphs();
        countIsNoneForNoActor();
        countIsLeastAboveNothing();
        countThrowsIfUneven();
        countThrowsIfGreat();
        orderThrowsOutsideTheRound();
        orderThrowsIfGreatOrUneven();
        orderAsksForAllTokensThatAreTaken();
        orderTakesTheLeast();
        orderEndsWhereARoundIsStuck();
        leftIsNoneForNoActor();
        leftIsFromAllToNothing();
        leftIsNoneIfGreatOrUneven();
        peakIsNoneForNoChannel();
        peakIsAtFirstOrBehindOneThatWasDone();
        peakIsNoneIfGreatOrUneven();
        paceThrowsForNoActorOrWhat();
        paceThrowsIfUnevenOrGreat();
        paceThrowsIfNotAlive();
        paceThrowsIfNotClosed();
        paceThrowsIfCountsAreMoreThanForty();
        paceAsksForTheCountsLast();
        paceIsInLowestTerms();
        paceHasOneAtATime();
        roomIsNothingForOneActor();
        roomIsNoneIfNoChain();
        roomIsNoneIfGreat();
        totalIsNoneForAnotherWhat();
        totalGoesFromLeastToGreatest();
        totalIsNothingIfGreatOrUneven();
        answersChangeNothing();
        Runs.end();
    }

    private static void unevenIsNoneIfThereIsNone() {
        Runs.run("5: no channels", "uneven = -1", "graph 8 = true", "uneven = -1");
        for (String even : new String[] {"1 1", "9 9", "5 5"}) {
            Runs.run("5: to itself, as many", "channel 0 0 " + even + " 0 = 0", "uneven = -1");
        }
        for (String uneven : new String[] {"1 2", "2 1", "9 8", "8 9", "1 9", "9 1"}) {
            Runs.run("5: to itself, more or less", "channel 0 0 " + uneven + " 99 = 0", "uneven = 0");
        }
        String pair = "graph 2 = true\nchannel 0 1 2 3 0 = 0\n";
        for (String even : new String[] {"0 1 2 3", "0 1 4 6", "0 1 6 9", "1 0 3 2", "1 0 6 4", "1 0 9 6"}) {
            Runs.run("5: 2 to 3, again", pair, "channel " + even + " 0 = 1", "uneven = -1", "count 0 = 3");
        }
        String[] near = {"0 1 2 2", "0 1 2 4", "0 1 1 3", "0 1 3 3", "0 1 6 8", "0 1 7 9", "1 0 2 3", "1 0 3 3",
            "1 0 3 1", "1 0 4 2", "1 0 9 5", "0 0 2 3", "1 1 3 2"};
        for (String uneven : near) {
            Runs.run("5: 2 to 3, and nearly again", pair, "channel " + uneven + " 0 = 1", "uneven = 1", "count 0" + STATE);
        }
    }

    private static void unevenIsEachNumberOfAChannel() {
        for (int number = 0; number <= 13; number++) {
            StringBuilder text = new StringBuilder("graph 2 = true\n");
            for (int c = 0; c < number; c++) {
                text.append("channel 0 1 1 1 0 = ").append(c).append('\n');
            }
            String ahead = text.toString();
            Runs.run("5: the last one is uneven", ahead, "uneven = -1", "channel 1 1 9 8 0 = " + number,
                "uneven = " + number);
            Runs.run("5: the last one is even", ahead, "channel 1 1 9 9 0 = " + number, "uneven = -1");
        }
    }

    private static void unevenIsTheFirst() {
        Runs.run("5: the first of three", """
            graph 4 = true
            channel 0 1 1 1 0 = 0
            channel 2 2 1 2 0 = 1      # in another part than the next one
            uneven = 1
            channel 0 1 1 2 0 = 2
            uneven = 1
            channel 2 2 2 1 0 = 3      # the other way round, which heals nothing
            uneven = 1
            channel 3 3 1 1 1 = 4
            channel 3 0 1 1 1 = 5
            uneven = 1
            graph 4 = true
            uneven = -1
            """);
        Runs.run("5: the channel that closes the loop, not one ahead of it", """
            graph 3 = true
            channel 0 1 1 2 0 = 0
            channel 1 2 1 2 0 = 1
            uneven = -1
            channel 2 0 4 1 0 = 2
            uneven = -1
            channel 2 0 3 1 0 = 3
            uneven = 3
            """);
        Runs.run("5: with the even ones ahead of it alone", """
            graph 3 = true
            channel 0 1 1 1 0 = 0
            channel 0 1 1 2 0 = 1
            channel 1 2 1 1 0 = 2
            channel 0 2 1 1 0 = 3
            channel 2 2 5 4 0 = 4
            uneven = 1
            """);
    }

    private static void unevenHoldsForGreatGraphs() {
        StringBuilder text = new StringBuilder("graph 8 = true\n");
        for (int a = 0; a < 7; a++) {
            text.append("channel ").append(a).append(' ').append(a + 1).append(" 9 1 0 = ").append(a).append('\n');
        }
        String greatest = text.toString();
        Runs.run("5: counts up to 9 to the 7th", greatest, """
            uneven = -1
            count 0 = ArithmeticException
            channel 7 6 1 9 0 = 7
            channel 6 7 9 1 0 = 8
            channel 7 7 9 9 0 = 9
            uneven = -1
            channel 7 0 1 9 0 = 10
            uneven = 10
            count 0 = IllegalStateException
            """);
        Runs.run("5: counts down from 9 to the 7th", """
            graph 8 = true
            channel 7 6 9 1 0 = 0
            channel 6 5 9 1 0 = 1
            channel 5 4 9 1 0 = 2
            channel 4 3 9 1 0 = 3
            channel 3 2 9 1 0 = 4
            channel 2 1 9 1 0 = 5
            channel 1 0 9 1 0 = 6
            channel 0 1 1 9 0 = 7
            uneven = -1
            channel 0 1 1 8 0 = 8
            uneven = 8
            """);
        // Counts 280, 315, 360 and 504 of actors 0 to 3.
        Runs.run("5: a star", """
            graph 4 = true
            channel 0 1 9 8 0 = 0
            channel 0 2 9 7 0 = 1
            channel 0 3 9 5 0 = 2
            channel 1 2 8 7 0 = 3
            channel 2 3 7 5 0 = 4
            channel 3 1 5 8 0 = 5
            uneven = -1
            count 0 = ArithmeticException
            channel 3 1 5 7 0 = 6
            uneven = 6
            """);
    }

    private static void countIsNoneForNoActor() {
        for (int n : new int[] {1, 3, 8}) {
            String graph = "graph " + n + " = true\n";
            for (int actor : Runs.outside(0, n - 1)) {
                Runs.run("6: no such actor of " + n, graph, "count " + actor + " = -1");
            }
            Runs.run("6: the first and the last of " + n, graph, "count 0 = 1", "count " + (n - 1) + " = 1");
        }
        Runs.run("6: an actor of the graph ahead", "graph 8 = true", "count 7 = 1", "graph 2 = true", "count 7 = -1",
            "count 2 = -1", "count 1 = 1");
    }

    private static void countIsLeastAboveNothing() {
        for (int puts = 1; puts <= 9; puts++) {
            for (int takes = 1; takes <= 9; takes++) {
                int common = 1;
                for (int d = 2; d <= 9; d++) {
                    common = puts % d == 0 && takes % d == 0 ? d : common;
                }
                Runs.run("6: puts " + puts + ", takes " + takes, "graph 3 = true",
                    "channel 2 0 " + puts + " " + takes + " 0 = 0", "count 2 = " + takes / common,
                    "count 0 = " + puts / common, "count 1 = 1");
            }
        }
        Runs.run("6: the least of each part, and of both when they are bound", """
            graph 4 = true
            channel 0 1 9 8 0 = 0
            channel 2 3 6 9 0 = 1
            count 0 = 8
            count 1 = 9
            count 2 = 3
            count 3 = 2
            channel 1 2 1 3 0 = 2      # 9 and 3: as they are
            count 0 = 8
            count 1 = 9
            count 2 = 3
            count 3 = 2
            """);
        Runs.run("6: both parts are multiplied", """
            graph 4 = true
            channel 0 1 2 1 0 = 0
            channel 2 3 3 1 0 = 1
            channel 1 3 1 1 0 = 2
            count 0 = 3
            count 1 = 6
            count 2 = 2
            count 3 = 6
            """);
    }

    private static void countThrowsIfUneven() {
        Runs.run("6: nearly uneven", NEARLY_UNEVEN, "count 0 = 1", "count 1 = 1", "count 2 = 1", "count 3 = -1");
        Runs.run("6: uneven, for each part", UNEVEN, "count 0" + STATE, "count 1" + STATE, "count 2" + STATE);
        Runs.run("6: uneven by an actor alone", "channel 0 0 1 2 0 = 0", "count 0" + STATE, "graph 1 = true", "count 0 = 1");
        Runs.run("6: uneven and with many counts", ONE_MORE, "count 0" + ARITHMETIC, "channel 0 0 1 2 0 = 3",
            "count 0" + STATE, "count 3" + STATE);
    }

    private static void countThrowsIfGreat() {
        Runs.run("6: 400", FOUR_HUNDRED, "count 0 = 1", "count 1 = 7", "count 2 = 49", "count 3 = 343");
        Runs.run("6: 401", ONE_MORE, "count 0" + ARITHMETIC, "count 3" + ARITHMETIC, "count 4 = -1");
        Runs.run("6: 400 in two parts", TWO_PARTS, "count 0 = 4", "count 3 = 315", "count 4 = 1");
        Runs.run("6: 401 in three parts", THREE_PARTS, "count 0" + ARITHMETIC, "count 4" + ARITHMETIC,
            "count 5" + ARITHMETIC);
        Runs.run("6: 400, and 401 with an actor that is bound", "graph 5 = true", """
            channel 0 1 7 1 0 = 0
            channel 1 2 7 1 0 = 1
            channel 4 0 1 1 0 = 2
            count 2 = 49
            channel 2 3 7 1 0 = 3
            count 2 = ArithmeticException
            graph 1 = true
            count 0 = 1
            """);
        Runs.run("6: 401 once, and 400 behind a new graph", ONE_MORE, "count 3" + ARITHMETIC, FOUR_HUNDRED, "count 3 = 343");
    }

    private static void orderThrowsOutsideTheRound() {
        Runs.run("7: each of a round", CHAIN, """
            order 0 = 0
            order 1 = 0
            order 2 = 0
            order 3 = 1
            order 4 = 1
            order 5 = 2
            """);
        for (int k : Runs.outside(0, 5)) {
            Runs.run("7: none such", CHAIN, "order " + k + NO_SUCH, "order 5 = 2");
        }
        for (int k : Runs.outside(0, 0)) {
            Runs.run("7: none such of one actor", "order " + k + NO_SUCH, "order 0 = 0");
        }
        Runs.run("7: of 400", FOUR_HUNDRED, """
            order 0 = 0
            order 1 = 1
            order 7 = 1
            order 8 = 2
            order 56 = 2
            order 57 = 3
            order 399 = 3
            order 400 = NoSuchElementException
            order 401 = NoSuchElementException
            """);
        Runs.run("7: a new graph has a shorter round", FOUR_HUNDRED, "order 399 = 3", CHAIN, "order 5 = 2", "order 6" + NO_SUCH,
            "order 399" + NO_SUCH);
    }

    private static void orderThrowsIfGreatOrUneven() {
        Runs.run("7: 400 in two parts", TWO_PARTS, "order 0 = 0", "order 399 = 4", "order 400" + NO_SUCH);
        for (String none : new String[] {ONE_MORE, THREE_PARTS, UNEVEN}) {
            Runs.run("7: great, or uneven", none, "order 0" + NO_SUCH, "order 1" + NO_SUCH, "order -1" + NO_SUCH,
                "order 399" + NO_SUCH, "order max" + NO_SUCH, "order min" + NO_SUCH);
        }
        Runs.run("7: nearly uneven", NEARLY_UNEVEN, "order 0 = 0", "order 1 = 1", "order 2 = 2", "order 3" + NO_SUCH);
        Runs.run("7: a round was known, and the graph gets uneven", NEARLY_UNEVEN, "order 0 = 0", "channel 2 2 1 2 9 = 2",
            "order 0" + NO_SUCH);
    }

    private static void orderAsksForAllTokensThatAreTaken() {
        for (int takes = 1; takes <= 9; takes++) {
            String self = "channel 0 0 " + takes + " " + takes + " ";
            Runs.run("7: as many as it takes", self + takes + " = 0", "order 0 = 0", "order 1" + NO_SUCH);
            Runs.run("7: more than it takes", self + "99 = 0", "order 0 = 0", "order 1" + NO_SUCH);
            Runs.run("7: one less than it takes", self + (takes - 1) + " = 0", "order 0" + NO_SUCH, "total 3 = 0");
        }
        String two = "graph 2 = true\nchannel 1 0 1 1 99 = 0\n";
        Runs.run("7: on each channel to it", two, "channel 1 0 1 1 0 = 1", "order 0 = 1", "order 1 = 0", "order 2" + NO_SUCH);
        Runs.run("7: on each channel to it", two, "channel 1 0 1 1 1 = 1", "order 0 = 0", "order 1 = 1", "order 2" + NO_SUCH);
        Runs.run("7: a channel from it asks for nothing", "graph 2 = true", "channel 0 1 9 9 0 = 0", "order 0 = 0",
            "order 1 = 1");
    }

    private static void orderTakesTheLeast() {
        String[][] tokensAndOrder = {{"0", "1 1 0"}, {"1", "1 0 1"}, {"2", "0 1 1"}, {"3", "0 1 1"}, {"99", "0 1 1"}};
        for (String[] row : tokensAndOrder) {
            String[] order = row[1].split(" ");
            Runs.run("7: the least one that can, tokens " + row[0], "graph 2 = true", "channel 1 0 1 2 " + row[0] + " = 0",
                "order 0 = " + order[0], "order 1 = " + order[1], "order 2 = " + order[2], "order 3" + NO_SUCH);
        }
        StringBuilder all = new StringBuilder();
        StringBuilder waits = new StringBuilder();
        for (int a = 0; a < 8; a++) {
            all.append("order ").append(a).append(" = ").append(a).append('\n');
            waits.append("order ").append((a + 7) % 8).append(" = ").append(a).append('\n');
        }
        Runs.run("7: eight, none of which waits", "graph 8 = true", all.toString(), "order 8" + NO_SUCH);
        Runs.run("7: the last is awaited", "graph 8 = true", "channel 7 0 1 1 0 = 0", waits.toString(), "order 8" + NO_SUCH);
        Runs.run("7: a token is there", "graph 8 = true", "channel 7 0 1 1 1 = 0", all.toString(), "order 8" + NO_SUCH);
    }

    private static void orderEndsWhereARoundIsStuck() {
        Runs.run("7: stuck, but for another part", STUCK, "order 0 = 0", "order 1 = 0", "order 2 = 2", "order 3" + NO_SUCH);
        Runs.run("7: stuck at once", "graph 2 = true", "channel 0 1 1 1 0 = 0", "channel 1 0 1 1 0 = 1", "order 0" + NO_SUCH);
        Runs.run("7: stuck at once, when a round was known", FOUR_HUNDRED, "order 399 = 3", "total 3 = 400",
            "channel 0 0 1 1 0 = 3", "order 0" + NO_SUCH, "order 399" + NO_SUCH, "total 3 = 0", "left 3 = 343", "peak 0 = 0");
        Runs.run("7: stuck behind 57 of 400", FOUR_HUNDRED, "channel 3 3 9 9 8 = 3", "order 56 = 2", "order 57" + NO_SUCH);
        Runs.run("7: not stuck, with a token more", FOUR_HUNDRED, "channel 3 3 9 9 9 = 3", "order 57 = 3", "order 399 = 3",
            "order 400" + NO_SUCH);
    }

    private static void leftIsNoneForNoActor() {
        for (String state : new String[] {CHAIN, STUCK}) {
            for (int actor : Runs.outside(0, 2)) {
                Runs.run("8: no such actor", state, "left " + actor + " = -1", "left 2 = 0");
            }
        }
        Runs.run("8: an actor of the graph ahead", "graph 8 = true", "left 7 = 0", CHAIN, "left 3 = -1", "left 7 = -1");
    }

    private static void leftIsFromAllToNothing() {
        for (int tokens = 0; tokens <= 4; tokens++) {
            boolean alive = tokens >= 3;
            Runs.run("8: counts 3 and 1, tokens " + tokens, "graph 3 = true", "channel 0 1 1 3 0 = 0",
                "channel 1 0 3 1 " + tokens + " = 1", "left 0 = " + (alive ? 0 : 3 - tokens),
                "left 1 = " + (alive ? 0 : 1), "left 2 = 0");
        }
        Runs.run("8: 343 are left", FOUR_HUNDRED, "channel 3 3 9 9 8 = 3", "left 3 = 343", "left 2 = 0", "left 0 = 0");
        Runs.run("8: none is left", FOUR_HUNDRED, "channel 3 3 9 9 9 = 3", "left 3 = 0", "left 2 = 0", "left 0 = 0");
        Runs.run("8: a chain is alive", CHAIN, "left 0 = 0", "left 1 = 0", "left 2 = 0");
        Runs.run("8: it was known, and a channel more makes it stuck", CHAIN, "left 0 = 0", "channel 2 0 3 1 2 = 2",
            "left 0 = 1", "left 1 = 1", "left 2 = 1");
    }

    private static void leftIsNoneIfGreatOrUneven() {
        Runs.run("8: 400", FOUR_HUNDRED, "left 0 = 0", "left 3 = 0", "left 4 = -1");
        Runs.run("8: 400 in two parts", TWO_PARTS, "left 0 = 0", "left 4 = 0", "left 5 = -1");
        Runs.run("8: 401", ONE_MORE, "left 0 = -1", "left 3 = -1", "left 4 = -1");
        Runs.run("8: 401 in three parts", THREE_PARTS, "left 0 = -1", "left 4 = -1", "left 5 = -1");
        Runs.run("8: nearly uneven", NEARLY_UNEVEN, "left 0 = 0", "left 1 = 0", "left 2 = 0");
        Runs.run("8: uneven", UNEVEN, "left 0 = -1", "left 1 = -1", "left 2 = -1", "left 3 = -1", "left min = -1");
    }

    private static void peakIsNoneForNoChannel() {
        for (int channel : Runs.outside(0, 1)) {
            Runs.run("9: no such channel", CHAIN, "peak " + channel + " = -1", "peak 0 = 6", "peak 1 = 2");
        }
        Runs.run("9: no channels", "graph 8 = true", "peak 0 = -1", "peak 13 = -1", "peak -1 = -1", "peak max = -1");
        Runs.run("9: a channel of the graph ahead", CHAIN, "peak 1 = 2", "graph 3 = true", "peak 0 = -1",
            "channel 0 1 1 1 7 = 0", "peak 0 = 8", "peak 1 = -1");
        Runs.run("9: a channel that was refused", CHAIN, "channel 0 1 2 3 100 = -1", "peak 2 = -1", "channel 0 1 2 3 99 = 2",
            "peak 2 = 105", "peak 3 = -1");
    }

    private static void peakIsAtFirstOrBehindOneThatWasDone() {
        // Counts 3 of actor 1 and 2 of actor 0. With 0: 2, 4, 1, 3, 0; with 3: 0, 2, 4, 1, 3; with 4: 1, 3, 0, 2, 4.
        int[][] tokensAndPeak = {{0, 4}, {1, 4}, {2, 4}, {3, 4}, {4, 4}, {5, 5}, {6, 6}, {98, 98}, {99, 99}};
        for (int[] row : tokensAndPeak) {
            Runs.run("9: 2 put and 3 taken, tokens " + row[0], "graph 2 = true", "channel 1 0 2 3 " + row[0] + " = 0",
                "peak 0 = " + row[1]);
        }
        Runs.run("9: nothing is done, nothing lies there", "channel 0 0 1 1 0 = 0", "peak 0 = 0");
        Runs.run("9: nothing is done, the most lies there", "graph 2 = true", "channel 0 1 1 1 99 = 0", "channel 1 0 1 1 0 = 1",
            "channel 0 0 1 1 0 = 2", "channel 1 1 1 1 0 = 3", "peak 0 = 99", "peak 1 = 0");
        Runs.run("9: not between what is taken and put", "channel 0 0 9 9 9 = 0", "channel 0 0 1 1 99 = 1", "peak 0 = 9",
            "peak 1 = 99");
        Runs.run("9: one that puts and one that takes all later: 99 and 81 times 9", """
            graph 4 = true
            channel 2 1 9 1 0 = 0
            channel 1 0 9 1 0 = 1
            channel 0 3 9 9 99 = 2
            peak 0 = 9
            peak 1 = 9
            peak 2 = 828
            """);
        Runs.run("9: stuck: what was done counts", STUCK, "peak 0 = 2", "peak 1 = 2");
        Runs.run("9: not stuck, with a token more", "graph 3 = true", "channel 0 1 1 3 0 = 0", "channel 1 0 3 1 3 = 1",
            "peak 0 = 3", "peak 1 = 3");
    }

    private static void peakIsNoneIfGreatOrUneven() {
        Runs.run("9: 400", FOUR_HUNDRED, "peak 0 = 7", "peak 1 = 49", "peak 2 = 343", "peak 3 = -1");
        Runs.run("9: 401", ONE_MORE, "peak 0 = -1", "peak 2 = -1", "peak 3 = -1");
        Runs.run("9: 400 in two parts", TWO_PARTS, "peak 0 = 20", "peak 1 = 70", "peak 2 = 630");
        Runs.run("9: 401 in three parts", THREE_PARTS, "peak 0 = -1", "peak 1 = -1", "peak 2 = -1");
        Runs.run("9: nearly uneven", NEARLY_UNEVEN, "peak 0 = 6", "peak 1 = 5", "peak 2 = -1");
        Runs.run("9: uneven", UNEVEN, "peak 0 = -1", "peak 1 = -1", "peak 2 = -1", "peak min = -1");
    }

    private static void paceThrowsForNoActorOrWhat() {
        for (int what : Runs.outside(0, 1)) {
            Runs.run("10: no such what", "pace 0 " + what + NO_SUCH, "pace 0 0 = 1", "pace 0 1 = 1");
        }
        for (int actor : Runs.outside(0, 2)) {
            Runs.run("10: no such actor", "graph 3 = true", "pace " + actor + " 0" + NO_SUCH, "pace " + actor + " 1" + NO_SUCH,
                "pace 0 0 = 1", "pace 2 0 = 1");
        }
        Runs.run("10: neither", "pace 1 2" + NO_SUCH, "pace min max" + NO_SUCH, "pace -1 -1" + NO_SUCH);
        Runs.run("10: an actor of the graph ahead", "graph 8 = true", "pace 7 0 = 1", "graph 2 = true", "pace 7 0" + NO_SUCH,
            "pace 2 0" + NO_SUCH, "pace 1 0 = 1");
        for (String state : new String[] {UNEVEN, ONE_MORE, THREE_PARTS, STUCK, CHAIN, closedFourHundred(7, 1)}) {
            Runs.run("10: ahead of what else there is", state, "pace -1 0" + NO_SUCH, "pace 8 1" + NO_SUCH, "pace 0 -1" + NO_SUCH,
                "pace 0 2" + NO_SUCH, "pace 8 2" + NO_SUCH);
        }
    }

    /** Counts 'takes', 7, 49 and 343, with channels back and enough tokens. */
    private static String closedFourHundred(int puts, int takes) {
        return "graph 4 = true\n"
            + "channel 0 1 " + puts + " " + takes + " 0 = 0\n"
            + "channel 1 2 7 1 0 = 1\n"
            + "channel 2 3 7 1 0 = 2\n"
            + "channel 1 0 " + takes + " " + puts + " 99 = 3\n"
            + "channel 2 1 1 7 99 = 4\n"
            + "channel 3 2 1 7 99 = 5\n";
    }

    private static void paceThrowsIfUnevenOrGreat() {
        Runs.run("10: nearly uneven", NEARLY_UNEVEN, "pace 0 0 = 1", "pace 1 1 = 1", "pace 2 0 = 1");
        Runs.run("10: uneven, for each part", UNEVEN, "pace 0 0" + STATE, "pace 1 1" + STATE, "pace 2 0" + STATE);
        Runs.run("10: 400 are not great, but too many", closedFourHundred(7, 1), "total 3 = 400", "pace 0 0" + ARITHMETIC,
            "pace 3 1" + ARITHMETIC);
        Runs.run("10: 401 are great", closedFourHundred(7, 2), "total 3 = 0", "pace 0 0" + STATE, "pace 3 1" + STATE);
        Runs.run("10: 400, for an actor alone", TWO_PARTS, "pace 4 0 = 1", "pace 4 1 = 1");
        Runs.run("10: 401, for an actor alone", THREE_PARTS, "pace 4 0" + STATE, "pace 5 1" + STATE);
    }

    private static void paceThrowsIfNotAlive() {
        for (int takes = 1; takes <= 9; takes++) {
            String self = "graph 2 = true\nchannel 1 1 " + takes + " " + takes + " ";
            Runs.run("10: a token less than it takes", self + (takes - 1) + " = 0", "pace 1 0" + STATE, "pace 0 0" + STATE);
            Runs.run("10: as many tokens as it takes", self + takes + " = 0", "pace 1 0 = 1", "pace 0 0 = 1");
        }
        for (int actor = 0; actor < 8; actor += 7) {
            String self = "channel " + actor + " " + actor + " 1 1 ";
            Runs.run("10: the first or the last alone is left", "graph 8 = true", self + "1 = 0", "pace 4 0 = 1", self + "0 = 1",
                "left " + actor + " = 1", "left 4 = 0", "pace 4 0" + STATE, "pace 0 0" + STATE, "pace 7 0" + STATE);
        }
        // Counts 3 and 2, times 3 and 2: with 4, actor 0 works 0 to 3 to 6, 1 to 8, 0 to 11, 1 to 13.
        String[][] tokensAndPace = {{"3", null}, {"4", "13"}, {"5", "11"}, {"6", "9"}, {"7", "9"}, {"99", "9"}};
        for (String[] row : tokensAndPace) {
            String due = row[1] == null ? STATE : " = " + row[1];
            Runs.run("10: counts 3 and 2, tokens " + row[0], "graph 2 = true", "time 0 3 = true", "time 1 2 = true",
                "channel 0 1 2 3 0 = 0", "channel 1 0 3 2 " + row[0] + " = 1", "pace 0 0" + due, "pace 1 0" + due,
                "pace 0 1" + (row[1] == null ? STATE : " = 1"));
        }
        Runs.run("10: it was alive, and is no more, and is in a new graph", "graph 2 = true", "pace 0 0 = 1",
            "channel 1 1 1 1 0 = 0", "pace 0 0" + STATE, "graph 2 = true", "pace 0 0 = 1");
    }

    /** Actors 0 .. n - 1, each with a channel to the next one, and the last one with a token to the first. */
    private static String ring(int n, int ofActors) {
        StringBuilder text = new StringBuilder("graph " + ofActors + " = true\n");
        for (int a = 0; a < n; a++) {
            text.append("channel ").append(a).append(' ').append((a + 1) % n).append(" 1 1 ").append(a == n - 1 ? 1 : 0)
                .append(" = ").append(a).append('\n');
        }
        return text.toString();
    }

    private static void paceThrowsIfNotClosed() {
        for (int n = 1; n <= 8; n++) {
            Runs.run("10: a ring is closed", ring(n, n), "pace 0 0 = " + n, "pace " + (n - 1) + " 0 = " + n, "pace 0 1 = 1");
        }
        for (int n = 2; n <= 8; n++) {
            String cut = ring(n, n).replaceAll("channel " + (n - 1) + " 0 .*\n", "");
            Runs.run("10: without its last channel it is not", cut, "total 1 = " + (n - 1), "pace 0 0" + STATE,
                "pace " + (n - 1) + " 0" + STATE, "pace " + n / 2 + " 1" + STATE,
                "channel " + (n - 1) + " 0 1 1 99 = " + (n - 1), "pace 0 0 = 1");
        }
        for (String tail : new String[] {"7 3", "3 7"}) {
            String back = new StringBuilder(tail).reverse().toString();
            Runs.run("10: a ring of seven, and one at its side", ring(7, 8), "pace 0 0 = 7", "pace 7 0 = 1",
                "channel " + tail + " 1 1 99 = 7", "pace 0 0" + STATE, "pace 3 0" + STATE, "pace 7 0" + STATE,
                "channel " + back + " 1 1 0 = 8", "pace 0 0 = 7", "pace 7 0 = 7");
        }
        Runs.run("10: two rings, bound one way, then both ways", """
            graph 4 = true
            channel 0 1 1 1 1 = 0
            channel 1 0 1 1 0 = 1
            channel 2 3 1 1 3 = 2
            channel 3 2 1 1 0 = 3
            pace 0 0 = 2
            pace 2 0 = 1
            channel 1 2 1 1 0 = 4
            pace 0 0 = IllegalStateException
            pace 1 0 = IllegalStateException
            pace 2 0 = IllegalStateException
            pace 3 0 = IllegalStateException
            channel 3 0 1 1 9 = 5
            pace 0 0 = 2
            pace 3 0 = 2
            """);
        Runs.run("10: an actor alone is closed, and so with a channel to itself", "graph 2 = true", "pace 0 0 = 1",
            "channel 0 0 1 1 1 = 0", "pace 0 0 = 1", "channel 0 1 1 1 0 = 1", "pace 0 0" + STATE);
        Runs.run("10: another part that is not closed does not matter", "graph 3 = true", "channel 0 1 1 1 0 = 0",
            "pace 2 0 = 1", "pace 0 0" + STATE);
    }

    /** Counts 'first', 3, 9 and 27: 40 together with 1, and 41 with 2. There are other actors, if any, alone. */
    private static String forty(int first, int actors, int tokens) {
        return "graph " + actors + " = true\n"
            + "channel 0 1 3 " + first + " 0 = 0\n"
            + "channel 1 2 3 1 0 = 1\n"
            + "channel 2 3 3 1 0 = 2\n"
            + "channel 1 0 " + first + " 3 " + tokens * first + " = 3\n"
            + "channel 2 1 1 3 " + tokens + " = 4\n"
            + "channel 3 2 1 3 " + tokens + " = 5\n";
    }

    private static void paceThrowsIfCountsAreMoreThanForty() {
        for (int actor = 0; actor < 4; actor++) {
            Runs.run("10: 40", forty(1, 4, 27), "total 3 = 40", "pace " + actor + " 0 = 27", "pace " + actor + " 1 = 1");
            Runs.run("10: 41", forty(2, 4, 27), "total 3 = 41", "pace " + actor + " 0" + ARITHMETIC,
                "pace " + actor + " 1" + ARITHMETIC);
        }
        Runs.run("10: 40 of 44", forty(1, 8, 27), "total 3 = 44", "pace 0 0 = 27", "pace 7 0 = 1");
        Runs.run("10: 41 of 45, and an actor alone", forty(2, 8, 27), "pace 7 0 = 1", "pace 0 0" + ARITHMETIC, "pace 7 1 = 1");
        Runs.run("10: 40, and 41 with an actor that is bound", forty(1, 5, 27), "pace 3 0 = 27", "channel 0 4 1 1 0 = 6",
            "channel 4 0 1 1 1 = 7", "pace 3 0" + ARITHMETIC, "pace 4 0" + ARITHMETIC);
        Runs.run("10: 40, again and again on one object", forty(1, 8, 27), "pace 0 0 = 27", "time 3 2 = true", "pace 0 0 = 54",
            "pace 7 0 = 1", "pace 3 0 = 54", "time 3 9 = true", "pace 1 0 = 243", forty(1, 8, 27), "pace 2 0 = 27");
        // Between two of actor 2 there are always three of actor 3: nine times 9 and 27. The others are quicker.
        Runs.run("10: 40, as slow as can be", forty(1, 4, 3), "time 0 9 = true", "time 1 9 = true", "time 2 9 = true",
            "time 3 9 = true", "pace 0 0 = 324", "pace 3 1 = 1",
            // Now one of actor 1 and three of actor 2 with two waits between them are slower: 3 times 9, 27 and 6.
            "time 3 1 = true", "pace 0 0 = 126", "pace 3 1 = 1");
    }

    private static void paceAsksForTheCountsLast() {
        Runs.run("10: 41 and uneven", forty(2, 5, 27), "pace 0 0" + ARITHMETIC, "channel 4 4 1 2 9 = 6", "pace 0 0" + STATE);
        Runs.run("10: 41 and not alive", forty(2, 5, 27), "pace 0 0" + ARITHMETIC, "channel 4 4 1 1 0 = 6", "pace 0 0" + STATE);
        Runs.run("10: 41 and not alive by itself", forty(2, 4, 2), "pace 0 0" + STATE);
        Runs.run("10: 42 and not closed", forty(2, 5, 27), "pace 0 0" + ARITHMETIC, "channel 0 4 1 2 0 = 6", "pace 0 0" + STATE,
            "channel 4 0 2 1 2 = 7", "pace 0 0" + ARITHMETIC);
    }

    private static void paceIsInLowestTerms() {
        int[][] nines = {{1, 72, 1}, {2, 36, 1}, {3, 24, 1}, {4, 18, 1}, {5, 72, 5}, {6, 12, 1}, {7, 72, 7}, {8, 9, 1},
            {9, 9, 1}, {99, 9, 1}};
        int[][] ones = {{1, 8, 1}, {2, 4, 1}, {3, 8, 3}, {4, 2, 1}, {5, 8, 5}, {6, 4, 3}, {7, 8, 7}, {8, 1, 1}, {9, 1, 1},
            {99, 1, 1}};
        StringBuilder slow = new StringBuilder();
        for (int a = 0; a < 8; a++) {
            slow.append("time ").append(a).append(" 9 = true\n");
        }
        for (int[] row : nines) {
            Runs.run("10: eight nines, tokens " + row[0], ringWith(row[0]), slow.toString(), "pace 4 0 = " + row[1],
                "pace 4 1 = " + row[2]);
        }
        for (int[] row : ones) {
            Runs.run("10: eight ones, tokens " + row[0], ringWith(row[0]), "pace 4 0 = " + row[1], "pace 4 1 = " + row[2]);
        }
    }

    private static String ringWith(int tokens) {
        return ring(8, 8).replace("channel 7 0 1 1 1", "channel 7 0 1 1 " + tokens);
    }

    private static void paceHasOneAtATime() {
        for (int tokens : new int[] {1, 2, 99}) {
            Runs.run("10: whatever lies there", "time 0 7 = true", "channel 0 0 1 1 " + tokens + " = 0", "pace 0 0 = 7",
                "pace 0 1 = 1");
        }
        Runs.run("10: nine in a round", "graph 2 = true", "time 0 9 = true", "time 1 9 = true", "channel 0 1 9 1 99 = 0",
            "channel 1 0 1 9 99 = 1", "pace 0 0 = 81", "pace 1 1 = 1");
        Runs.run("10: nine in a round, and one behind them", "graph 2 = true", "time 0 9 = true", "time 1 9 = true",
            "channel 0 1 9 1 0 = 0", "channel 1 0 1 9 9 = 1", "pace 0 0 = 90", "pace 1 1 = 1");
    }

    private static void roomIsNothingForOneActor() {
        Runs.run("11: one actor", "room = 0", "graph 1 = true", "room = 0", "time 0 9 = true", "room = 0");
        Runs.run("11: one actor with a channel", "channel 0 0 1 1 0 = 0", "room = -1", "graph 1 = true", "room = 0");
        Runs.run("11: one actor with an uneven channel", "channel 0 0 1 2 0 = 0", "room = -1");
    }

    /** A chain of n, whose channel 'other' is written as told instead, if there is one. */
    private static String chain(int n, int other, String instead) {
        StringBuilder text = new StringBuilder("graph " + n + " = true\n");
        for (int c = 0; c < n - 1; c++) {
            String plain = c + " " + (c + 1) + " 1 1 0";
            text.append("channel ").append(c == other ? instead : plain).append(" = ").append(c).append('\n');
        }
        return text.toString();
    }

    private static void roomIsNoneIfNoChain() {
        for (int n = 2; n <= 8; n++) {
            int last = n - 2;
            String whole = chain(n, -1, "");
            String cut = whole.replaceAll("channel " + last + " .*\n", "");
            Runs.run("11: a chain of " + n, whole, "room = " + (n - 1));
            Runs.run("11: a channel less", cut, "total 1 = " + last, "room = -1");
            Runs.run("11: a channel more", whole, "channel 0 1 1 1 0 = " + (n - 1), "room = -1");
            Runs.run("11: a ring", whole, "channel " + (n - 1) + " 0 1 1 0 = " + (n - 1), "room = -1");
            for (int c = 0; c <= last; c++) {
                int next = c + 1;
                Runs.run("11: a token", chain(n, c, c + " " + next + " 1 1 1"), "room = -1");
                Runs.run("11: the most tokens", chain(n, c, c + " " + next + " 1 1 99"), "room = -1");
                Runs.run("11: the other way", chain(n, c, next + " " + c + " 1 1 0"), "room = -1");
                Runs.run("11: to itself", chain(n, c, c + " " + c + " 1 1 0"), "room = -1");
                Runs.run("11: to itself, uneven", chain(n, c, next + " " + next + " 1 2 0"), "room = -1");
                Runs.run("11: nine times as many", chain(n, c, c + " " + next + " 9 9 0"), "room = " + (n - 2 + 9));
            }
        }
        Runs.run("11: each channel, but not in order", "graph 3 = true", "channel 1 2 1 1 0 = 0", "channel 0 1 1 1 0 = 1",
            "room = -1");
        Runs.run("11: one is left out", "graph 3 = true", "channel 0 2 1 1 0 = 0", "channel 1 2 1 1 0 = 1", "room = -1");
        Runs.run("11: a fork", "graph 3 = true", "channel 0 1 1 1 0 = 0", "channel 0 2 1 1 0 = 1", "room = -1");
        Runs.run("11: a channel that is refused leaves the chain", CHAIN, "channel 0 1 1 1 100 = -1", "room = 8");
        Runs.run("11: no channels", "graph 2 = true", "room = -1", "graph 8 = true", "room = -1");
    }

    private static void roomIsNoneIfGreat() {
        // The cuts from the left on: 1 times 7 by 1, 7 times 7 by 7, 49 times 7 by 49.
        Runs.run("11: 400", FOUR_HUNDRED, "room = 21");
        Runs.run("11: 401", ONE_MORE, "room = -1");
        Runs.run("11: far more than 400", "graph 4 = true", "channel 0 1 9 1 0 = 0", "channel 1 2 9 1 0 = 1", "room = -1",
            "channel 2 3 9 1 0 = 2", "room = -1", CHAIN, "room = 8");
        Runs.run("11: the most for two actors", "graph 2 = true", "channel 0 1 9 8 0 = 0", "room = 72");
        Runs.run("11: the least for two actors", "graph 2 = true", "channel 0 1 1 1 0 = 0", "room = 1");
    }

    private static void totalIsNoneForAnotherWhat() {
        for (int what : Runs.outside(0, 3)) {
            Runs.run("12: no such what", CHAIN, "total " + what + " = -1", "total 0 = 3", "total 3 = 6");
        }
        for (String state : STATES) {
            Runs.run("12: no such what, in each state", state, "total -1 = -1", "total 4 = -1", "total min = -1",
                "total max = -1");
        }
    }

    private static void totalGoesFromLeastToGreatest() {
        Runs.run("12: the least", "total 0 = 1", "total 1 = 0", "total 2 = 1", "total 3 = 1");
        StringBuilder text = new StringBuilder("graph 8 = true\ntotal 0 = 8\ntotal 2 = 8\ntotal 3 = 8\n");
        for (int c = 0; c < 14; c++) {
            int a = c / 2;
            // Each pair is bound by one channel, and then once more by one that goes back.
            text.append(c % 2 == 0 ? "channel " + a + " " + (a + 1) : "channel " + (a + 1) + " " + a)
                .append(" 1 1 1 = ").append(c)
                .append("\ntotal 1 = ").append(c + 1).append("\ntotal 2 = ").append(7 - a).append('\n');
        }
        Runs.run("12: from eight parts to one, from no channel to fourteen", text.toString(), "channel 0 1 1 1 0 = -1",
            "total 0 = 8", "total 1 = 14", "total 2 = 1", "total 3 = 8");
        Runs.run("12: whichever way channels go, again and again", """
            graph 5 = true
            channel 4 4 1 1 1 = 0
            total 2 = 5
            channel 0 1 1 1 0 = 1
            channel 3 2 1 1 0 = 2
            total 2 = 3
            channel 3 1 1 1 0 = 3
            total 2 = 2
            channel 2 0 1 1 0 = 4
            total 2 = 2
            channel 4 0 1 1 0 = 5
            total 2 = 1
            """);
        Runs.run("12: none is done", "channel 0 0 1 1 0 = 0", "total 3 = 0", "count 0 = 1");
        Runs.run("12: some are done", STUCK, "total 3 = 3");
        Runs.run("12: 57 of 400 are done", FOUR_HUNDRED, "channel 3 3 9 9 8 = 3", "total 3 = 57");
    }

    private static void totalIsNothingIfGreatOrUneven() {
        Runs.run("12: 400", FOUR_HUNDRED, "total 3 = 400", "total 2 = 1");
        Runs.run("12: 400 in two parts", TWO_PARTS, "total 3 = 400", "total 2 = 2");
        Runs.run("12: 401", ONE_MORE, "total 3 = 0", "total 0 = 4", "total 1 = 3", "total 2 = 1");
        Runs.run("12: 401 in three parts", THREE_PARTS, "total 3 = 0", "total 0 = 6", "total 1 = 3", "total 2 = 3");
        Runs.run("12: nearly uneven", NEARLY_UNEVEN, "total 3 = 3", "total 2 = 2");
        Runs.run("12: uneven", UNEVEN, "total 3 = 0", "total 0 = 3", "total 1 = 2", "total 2 = 2",
            "channel 2 0 1 1 0 = 2", "total 1 = 3", "total 2 = 1", "total 3 = 0");
    }

    /** A call that only asks changes nothing, be it answered, answered NONE or with an exception. */
    private static void answersChangeNothing() {
        String later = "time 0 3 = true\nchannel 0 0 1 1 1 = ";
        String[] asked = {"uneven", "count 0", "count 8", "order 0", "order -1", "left 0", "left -1", "peak 0", "peak 14",
            "pace 0 0", "pace 0 2", "pace 2 1", "room", "total 3", "total 4"};
        for (String state : STATES) {
            for (String call : asked) {
                Player player = new Player();
                for (String line : state.split("\n")) {
                    player.ask(line.split("=")[0]);
                }
                String number = player.ask("total 1");
                Runs.changesNothing("asking " + call, state, call, player.ask(call), later + number);
            }
        }
    }
}
