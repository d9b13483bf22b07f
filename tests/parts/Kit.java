import java.util.function.IntSupplier;

/** Tells plains and makes steps on them; what every test needs ahead of its questions. */
final class Kit {
    /** Four places in a ring, two walkers, five prints kept. */
    static final String RING = "places 4;path 0 1;path 1 2;path 2 3;path 3 0;walker 0;walker 2;keep 5;";
    /** One walker between two places. */
    static final String PAIR = "places 2;path 0 1;walker 0 beat 1 0;";

    private Kit() { }

    /** The text comes onto the tape, with blanks behind it till twenty bytes are full. */
    static void feed(SnowKeeps s, String text) {
        for (int i = 0; i < text.length(); i += 20) {
            int[] v = new int[5];
            for (int j = 0; j < 20; j++) {
                int sign = i + j < text.length() ? text.charAt(i + j) : ' ';
                v[j / 4] = v[j / 4] << 8 | sign & 255;
            }
            s.feed(v[0], v[1], v[2], v[3], v[4]);
        }
    }

    static int tell(SnowKeeps s, String text) {
        feed(s, text);
        return s.plain(text.length());
    }

    static SnowKeeps of(String text) {
        SnowKeeps s = new SnowKeeps();
        if (tell(s, text) < 0) {
            throw new IllegalStateException("a fault in " + text);
        }
        return s;
    }

    /** The sixteen first of all paths between seven places, the last from 3 to 4. */
    static String sixteenPaths() {
        StringBuilder text = new StringBuilder("places 7;");
        int told = 0;
        for (int a = 0; a < 7; a++) {
            for (int b = a + 1; b < 7 && told < 16; b++) {
                text.append("path ").append(a).append(' ').append(b).append(';');
                told++;
            }
        }
        return text.toString();
    }

    static void fill(SnowKeeps s, int tray, int sort, long... numbers) {
        s.tray(tray, sort, numbers.length);
        for (int i = 0; i < numbers.length; i++) {
            s.write(tray, i, numbers[i]);
        }
    }

    /** Steps that must be: walker, place, walker, place .. */
    static SnowKeeps go(SnowKeeps s, int... steps) {
        for (int i = 0; i + 1 < steps.length; i += 2) {
            if (s.step(steps[i], steps[i + 1]) < 0) {
                throw new IllegalStateException("step " + i / 2 + " can't be");
            }
        }
        return s;
    }

    /** So many steps of walker 0 to and fro between 0 and 1, from 0 on. */
    static SnowKeeps toAndFro(SnowKeeps s, int steps) {
        for (int i = 0; i < steps; i++) {
            go(s, 0, 1 - i % 2);
        }
        return s;
    }

    /** The ring behind the steps 0>1 by walker 0, 2>3 by walker 1, then 1>2, 2>3 by 0, 3>0 by 1. */
    static SnowKeeps walked() {
        return walkedOn(RING);
    }

    static SnowKeeps walkedOn(String text) {
        return go(of(text), 0, 1, 1, 3, 0, 2, 0, 3, 1, 0);
    }

    /** All that asking can tell of the state. */
    static String look(SnowKeeps s) {
        return "tape " + s.count(7) + " fault " + s.fault(0) + " " + s.fault(1) + lookAtSnow(s);
    }

    /** All but the tape and the FAULT. */
    static String lookAtSnow(SnowKeeps s) {
        StringBuilder b = new StringBuilder(" counts");
        for (int i = 0; i < 11; i++) {
            b.append(' ').append(i == 7 ? 0 : s.count(i));
        }
        for (int k = 0; k < s.count(2); k++) {
            b.append(" path").append(s.path(k, 0)).append(s.path(k, 1));
        }
        for (int k = 0; k < s.count(5); k++) {
            b.append(' ').append(s.print(k, 0)).append('>').append(s.print(k, 1)).append('w').append(s.print(k, 2));
        }
        b.append(" wolves");
        for (int k = 0; k < s.wolves(); k++) {
            b.append(' ').append(s.wolf(k, 0)).append('>').append(s.wolf(k, 1)).append('w').append(s.wolf(k, 2));
        }
        for (int w = 0; w < s.count(3); w++) {
            b.append(" walker").append(s.walker(w, 0)).append(' ').append(s.walker(w, 1)).append(' ').append(s.beat(w, -1));
        }
        for (int t = 0; t < 4; t++) {
            int tray = t;
            b.append(" tray").append(orThrow(() -> s.judge(tray, 0))).append(orThrow(() -> s.pens(tray)));
        }
        return b.toString();
    }

    private static String orThrow(IntSupplier call) {
        try {
            return " " + call.getAsInt();
        } catch (RuntimeException e) {
            return " " + e.getClass().getSimpleName();
        }
    }
}
