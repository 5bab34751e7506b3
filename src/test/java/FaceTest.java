import java.lang.reflect.Constructor;
import java.lang.reflect.Field;
import java.lang.reflect.Method;
import java.lang.reflect.Modifier;
import java.util.Arrays;
import java.util.Set;
import java.util.TreeSet;

/** The public face is the document's, and nothing else of the class can be seen from outside. */
public final class FaceTest {
    private static final String[] FACE = {
        "public RatePlans()",
        "public static final int RatePlans.NONE",
        "public boolean RatePlans.graph(int)",
        "public boolean RatePlans.time(int,int)",
        "public int RatePlans.channel(int,int,int,int,int)",
        "public int RatePlans.uneven()",
        "public int RatePlans.count(int) throws java.lang.IllegalStateException,java.lang.ArithmeticException",
        "public int RatePlans.order(int) throws java.util.NoSuchElementException",
        "public int RatePlans.left(int)",
        "public int RatePlans.peak(int)",
        "public int RatePlans.pace(int,int) throws java.util.NoSuchElementException,"
            + "java.lang.IllegalStateException,java.lang.ArithmeticException",
        "public int RatePlans.room()",
        "public int RatePlans.total(int)",
    };

    public static void main(String[] args) {
        Set<String> want = new TreeSet<>(Arrays.asList(FACE));
        Set<String> got = new TreeSet<>();
        Set<String> publicNames = new TreeSet<>();
        boolean clash = false;
        for (Constructor<?> c : RatePlans.class.getDeclaredConstructors()) {
            addSeen(got, c.getModifiers(), c.toString());
        }
        for (Field f : RatePlans.class.getDeclaredFields()) {
            addSeen(got, f.getModifiers(), f.toString());
        }
        for (Method m : RatePlans.class.getDeclaredMethods()) {
            addSeen(got, m.getModifiers(), m.toString());
            if (Modifier.isPublic(m.getModifiers())) {
                publicNames.add(m.getName());
            }
        }
        for (Method m : RatePlans.class.getDeclaredMethods()) {
            clash |= Modifier.isPrivate(m.getModifiers()) && publicNames.contains(m.getName());
        }
        boolean isFinal = Modifier.isFinal(RatePlans.class.getModifiers());
        if (!want.equals(got) || clash || !isFinal) {
            System.out.println("the face is " + got + ", due is " + want + "; names clash: " + clash
                + "; final: " + isFinal);
            System.exit(1);
        }
    }

    private static void addSeen(Set<String> seen, int modifiers, String text) {
        if (!Modifier.isPrivate(modifiers)) {
            seen.add(text);
        }
    }
}
