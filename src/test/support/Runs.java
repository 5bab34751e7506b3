import java.util.TreeSet;

/** Runs of calls written as text: a line is 'call = answer that is due', and '#' begins a comment. */
final class Runs {
    private static int wrong = 0;

    private Runs() {
    }

    /** Plays the lines on a new object. */
    static void run(String title, String... texts) {
        Player player = new Player();
        for (String text : texts) {
            play(title, player, text);
        }
    }

    private static void play(String title, Player player, String text) {
        for (String line : text.split("\n")) {
            String row = line.split("#", 2)[0].trim();
            if (row.isEmpty()) {
                continue;
            }
            String[] sides = row.split(" *= *");
            if (sides.length != 2) {
                throw new AssertionError("no answer stands there: " + line);
            }
            check(title, sides[0], player.ask(sides[0]), sides[1]);
        }
    }

    /**
     * A call that is refused changes nothing: all that can be asked behind it, and all that the lines of
     * 'later' change and ask, is as on an object that was never asked for it. It is asked both when the
     * answers of the graph were not asked for yet, and when they were.
     */
    static void changesNothing(String title, String setup, String refused, String answer, String later) {
        Player never = new Player();
        play(title, never, setup);
        String shown = never.show();
        play(title, never, later);
        String shownLater = never.show();
        for (boolean askedAhead : new boolean[] {false, true}) {
            Player player = new Player();
            play(title, player, setup);
            if (askedAhead) {
                compare(title, "ahead of " + refused, player.show(), shown);
            }
            check(title, refused, player.ask(refused), answer);
            compare(title, "behind " + refused, player.show(), shown);
            play(title, player, later);
            compare(title, "long behind " + refused, player.show(), shownLater);
        }
    }

    /** Two runs leave objects of which all that can be asked is the same. */
    static void same(String title, String one, String other) {
        Player first = new Player();
        Player second = new Player();
        play(title, first, one);
        play(title, second, other);
        compare(title, "the first run", first.show(), second.show());
    }

    /** Numbers that are not least .. most: the nearest, the farthest, and those that a narrower type, a mask
     * or a lost sign would make into one of least .. most. */
    static int[] outside(int least, int most) {
        TreeSet<Integer> found = new TreeSet<>();
        for (int end : new int[] {least, most}) {
            for (int x : new int[] {end - 1, end + 1, -end, ~end, end + 8, end + 16, end + 32, end + 64,
                end + 256, end + 65536, end - 256, end - 65536, end + Integer.MIN_VALUE}) {
                found.add(x);
            }
        }
        found.add(Integer.MIN_VALUE);
        found.add(Integer.MAX_VALUE);
        found.removeIf(x -> x >= least && x <= most);
        return found.stream().mapToInt(x -> x).toArray();
    }

    private static void compare(String title, String where, String got, String want) {
        String[] gotLines = got.split("\n");
        String[] wantLines = want.split("\n");
        for (int i = 0; i < Math.min(gotLines.length, wantLines.length); i++) {
            check(title, where + ", line " + i, gotLines[i], wantLines[i]);
        }
        check(title, where + ", lines", String.valueOf(gotLines.length), String.valueOf(wantLines.length));
    }

    static void check(String title, String call, String got, String want) {
        if (!got.equals(want)) {
            wrong++;
            System.out.println(title + ": " + call + " answered " + got + ", due is " + want);
        }
    }

    /** Ends the test, with exit code 1 if an answer was wrong. */
    static void end() {
        if (wrong != 0) {
            System.out.println(wrong + " answers are not as due");
            System.exit(1);
        }
    }
}
