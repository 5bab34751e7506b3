import java.lang.reflect.Method;

/** One object that is asked by calls written as text, and for no more calls than the document allows. */
final class Player {
    private static final int CALLS_MOST = 512;
    private static final int ORDER_SHOWN = 60;

    private final RatePlans plans = new RatePlans();
    private int calls = 0;

    /** A call is its name and its numbers, with blanks between; an answer is a number, a boolean or a name. */
    String ask(String call) {
        calls++;
        if (calls > CALLS_MOST) {
            throw new AssertionError("an object is not used for more than 512 calls: " + call);
        }
        String[] words = call.trim().split(" +");
        int[] numbers = new int[words.length - 1];
        for (int i = 0; i < numbers.length; i++) {
            numbers[i] = number(words[i + 1]);
        }
        checkIsOfFace(words[0], numbers.length);
        try {
            return answer(words[0], numbers);
        } catch (RuntimeException e) {
            return nameOf(e);
        }
    }

    /** A call with a number too many or too few is a fault of the test, not an answer. */
    private static void checkIsOfFace(String name, int numbers) {
        for (Method m : RatePlans.class.getDeclaredMethods()) {
            if (m.getName().equals(name) && m.getParameterCount() == numbers) {
                return;
            }
        }
        throw new AssertionError("no such call: " + name + " with " + numbers + " numbers");
    }

    private static int number(String word) {
        return switch (word) {
            case "min" -> Integer.MIN_VALUE;
            case "max" -> Integer.MAX_VALUE;
            default -> Integer.parseInt(word);
        };
    }

    /** The machine's own division by zero is no answer, though it bears a name of the document. */
    private static String nameOf(RuntimeException e) {
        String name = e.getClass().getSimpleName();
        return "/ by zero".equals(e.getMessage()) ? "the machine's " + name : name;
    }

    private String answer(String name, int[] a) {
        return switch (name) {
            case "graph" -> String.valueOf(plans.graph(a[0]));
            case "time" -> String.valueOf(plans.time(a[0], a[1]));
            case "channel" -> String.valueOf(plans.channel(a[0], a[1], a[2], a[3], a[4]));
            case "uneven" -> String.valueOf(plans.uneven());
            case "count" -> String.valueOf(plans.count(a[0]));
            case "order" -> String.valueOf(plans.order(a[0]));
            case "left" -> String.valueOf(plans.left(a[0]));
            case "peak" -> String.valueOf(plans.peak(a[0]));
            case "pace" -> String.valueOf(plans.pace(a[0], a[1]));
            case "room" -> String.valueOf(plans.room());
            case "total" -> String.valueOf(plans.total(a[0]));
            default -> throw new AssertionError("no such call: " + name);
        };
    }

    /** All that can be asked without a change, one call to a line; it takes some 130 calls. */
    String show() {
        StringBuilder text = new StringBuilder();
        put(text, "uneven");
        put(text, "room");
        for (int what = -1; what <= 4; what++) {
            put(text, "total " + what);
        }
        for (int actor = -1; actor <= 8; actor++) {
            put(text, "count " + actor);
            put(text, "left " + actor);
            put(text, "pace " + actor + " 0");
            put(text, "pace " + actor + " 1");
        }
        for (int channel = -1; channel <= 14; channel++) {
            put(text, "peak " + channel);
        }
        for (int k = 0; k < ORDER_SHOWN; k++) {
            if (put(text, "order " + k).equals("NoSuchElementException")) {
                break;
            }
        }
        return text.toString();
    }

    private String put(StringBuilder text, String call) {
        String got = ask(call);
        text.append(call).append(" = ").append(got).append('\n');
        return got;
    }
}
