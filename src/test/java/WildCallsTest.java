/** Runs of 512 calls with any arguments, in any state: nothing but what the document names is thrown. */
public final class WildCallsTest {
    private static final int RUNS = 400;
    private static final int CALLS = 512;
    private static final int[] ODD = {
        Integer.MIN_VALUE, Integer.MIN_VALUE + 1, -100, -2, -1, 10, 14, 15, 40, 100, 399, 400, 401,
        Integer.MAX_VALUE - 1, Integer.MAX_VALUE,
    };

    private static long seed = 7L;
    private static int wrong = 0;

    private static int below(int bound) {
        seed = seed * 6364136223846793005L + 1442695040888963407L;
        return (int) ((seed >>> 33) % bound);
    }

    private static int number(int usual) {
        return below(12) == 0 ? ODD[below(ODD.length)] : below(usual);
    }

    public static void main(String[] args) {
        for (int run = 0; run < RUNS; run++) {
            RatePlans x = new RatePlans();
            RatePlans same = new RatePlans();
            for (int k = 0; k < CALLS; k++) {
                long before = seed;
                String got = answer(x);
                seed = before;
                String again = answer(same);
                if (!got.equals(again) || got.startsWith("not named")) {
                    wrong++;
                    System.out.println("run " + run + ", call " + k + ": " + got + " and " + again);
                }
            }
        }
        if (wrong != 0) {
            System.out.println(wrong + " answers are not as due");
            System.exit(1);
        }
    }

    private static String answer(RatePlans x) {
        int which = below(16);
        try {
            return String.valueOf(ask(x, which));
        } catch (RuntimeException e) {
            String name = e.getClass().getSimpleName();
            boolean named = which == 5 && !name.equals("NoSuchElementException")
                || which == 6 && name.equals("NoSuchElementException")
                || which == 9;
            boolean ofDocument = name.equals("NoSuchElementException") || name.equals("IllegalStateException")
                || name.equals("ArithmeticException");
            return named && ofDocument && thrownByThrow(e) ? name : "not named: " + name + " by call " + which;
        }
    }

    /** The machine's own division by zero is an ArithmeticException, too. */
    private static boolean thrownByThrow(RuntimeException e) {
        return !"/ by zero".equals(e.getMessage());
    }

    private static int ask(RatePlans x, int which) {
        switch (which) {
            case 0:
                return below(6) == 0 && x.graph(number(9)) ? 1 : 0;
            case 1:
                return x.time(number(8), number(10)) ? 1 : 0;
            case 2:
                return x.uneven();
            case 5:
                return x.count(number(8));
            case 6:
                return x.order(number(60));
            case 7:
                return x.left(number(8));
            case 8:
                return x.peak(number(14));
            case 9:
                return x.pace(number(8), number(2));
            case 10:
                return x.room();
            case 11:
                return x.total(number(4));
            default:
                return anyChannel(x);
        }
    }

    private static int anyChannel(RatePlans x) {
        int most = 1 + below(3) * below(4);
        int puts = below(12) == 0 ? number(10) : 1 + below(most);
        int takes = below(3) > 0 ? puts : 1 + below(most);
        return x.channel(number(5), number(5), puts, takes, number(100));
    }
}
