import java.lang.reflect.InvocationTargetException;
import java.lang.reflect.Method;
import java.util.Arrays;
import java.util.Comparator;

/** Any arguments in any state: only the told exceptions, thrown by a throw statement, and then nothing is changed. */
public final class WildTests {
    private static final int[] EDGES = {Integer.MIN_VALUE, -1000, -2, -1, 0, 1, 2, 3, 4, 5, 6, 7, 8, 9, 10, 11, 12, 13, 14, 30,
        31, 32, 59, 60, 61, 99, 100, 600, 601, Integer.MAX_VALUE};
    private static final long[] LONG_EDGES = {Long.MIN_VALUE, -1, 0, 1, 2, 3, 5, 7, 9, 31, 32, 101, 203, 5039, 1L << 31, 1L << 32,
        (1L << 32) + 1, Long.MAX_VALUE};
    private static final String[] TEXTS = {
        "places 8;path 0 1;path 0 2;path 0 3;path 0 4;path 0 5;path 0 6;path 0 7;walker 0;walker 0 beat 1 0 2 0 3 0 4 0;keep 14;",
        "places 10;path 0 1;path 1 2;path 2 0;path 2 3;path 3 4;path 4 5;path 5 2;path 8 9;walker 0 beat 1 2 0;walker 9;"
            + "walker 4 beat 5 2 3 4;walker 7 beat 7;keep 60;storm 7 9;wolves 99;",
        "places 1;walker 0;keep 1;storm 1 60;wolves 1;",
        "places 5;path 0 1;path 1 2;path 2 3;path 3 4;path 4 0;path 0 2;path 1 3;walker 0;walker 2;keep 8;"};
    private static int wrong = 0;
    private static long x = 5;

    private static int draw(int n) {
        x = x * 6364136223846793005L + 1442695040888963407L;
        return (int) ((x >>> 33) % n);
    }

    private static Object wildOf(Class<?> type) {
        if (type == boolean.class) return draw(2) == 0;
        if (type == long.class) return draw(8) == 0 ? x : LONG_EDGES[draw(LONG_EDGES.length)];
        return draw(10) == 0 ? (int) (x >>> 20) : draw(2) == 0 ? draw(6) : EDGES[draw(EDGES.length)];
    }

    /** All that asking can tell of the state in a few calls. */
    private static String look(SnowKeeps s) {
        StringBuilder b = new StringBuilder();
        for (int i = 0; i < 11; i++) b.append(s.count(i)).append(' ');
        b.append(s.fault(0)).append(s.fault(1));
        for (int k = 0; k < s.count(5); k++) b.append(s.print(k, 0)).append(s.print(k, 1)).append(s.print(k, 2)).append(' ');
        for (int k = 0; k < s.wolves(); k++) b.append(s.wolf(k, 0)).append(s.wolf(k, 1)).append(s.wolf(k, 2)).append(' ');
        for (int w = 0; w < s.count(3); w++) b.append(s.walker(w, 0)).append(s.walker(w, 1)).append(s.beat(w, -1)).append(' ');
        return b.toString();
    }

    private static void call(SnowKeeps s, Method m) throws IllegalAccessException {
        Object[] args = new Object[m.getParameterCount()];
        for (int i = 0; i < args.length; i++) args[i] = wildOf(m.getParameterTypes()[i]);
        String before = look(s);
        try {
            m.invoke(s, args);
        } catch (InvocationTargetException e) {
            Throwable t = e.getCause();
            boolean told = Arrays.asList(m.getExceptionTypes()).contains(t.getClass());
            boolean own = t.getStackTrace().length > 0 && t.getStackTrace()[0].getClassName().startsWith("SnowKeeps");
            if (!told || !own || !before.equals(look(s))) {
                wrong++;
                System.out.println(m.getName() + Arrays.toString(args) + " threw " + t + (told && own ? " and changed something" : ""));
            }
        }
    }

    public static void main(String[] args) throws IllegalAccessException {
        Method[] calls = SnowKeeps.class.getDeclaredMethods();
        calls = Arrays.stream(calls).filter(m -> (m.getModifiers() & java.lang.reflect.Modifier.PUBLIC) != 0).toArray(Method[]::new);
        Arrays.sort(calls, Comparator.comparing(Method::getName));
        if (calls.length != 57) {
            wrong++;
            System.out.println("the face has " + calls.length + " calls, due are 57");
        }
        for (int run = 0; run < 300; run++) {
            SnowKeeps s = new SnowKeeps();
            if (run % 10 != 0) {
                String text = TEXTS[run % TEXTS.length];
                Kit.feed(s, text);
                s.plain(text.length());
                s.rounds(1 + draw(60));
            }
            for (int i = 0; i < 400; i++) {
                Method m = calls[draw(calls.length)];
                if (m.getName().equals("plain") && draw(8) > 0) continue;
                call(s, m);
            }
        }
        System.out.println(wrong == 0 ? "wild calls are answered" : wrong + " wild calls are wrong");
        if (wrong != 0) System.exit(1);
    }
}
