import java.io.IOException;
import java.nio.file.Files;
import java.nio.file.Path;
import java.util.ArrayList;
import java.util.Arrays;
import java.util.List;
import java.util.Map;
import java.util.NoSuchElementException;
import java.util.TreeMap;
import java.util.regex.Matcher;
import java.util.regex.Pattern;

/**
 * Tests of boundary cases. Each names its promise (TERMS for what stands ahead of the promises), the words of the
 * document that tell the boundary, and the case. The words must stand there, and no boundary there may stay untold.
 */
final class Edge {
    interface Case {
        void run();
    }

    interface Made {
        SnowKeeps make();
    }

    interface Call {
        void on(SnowKeeps s);
    }

    static final int TERMS = 0;
    static final Class<?> NO_SUCH = NoSuchElementException.class;
    static final Class<?> ARGUMENT = IllegalArgumentException.class;
    static final Class<?> STATE = IllegalStateException.class;
    static final Class<?> BOUNDS = IndexOutOfBoundsException.class;

    private static final Path DOCUMENT = Path.of("../shared/DOC.md");
    private static final int PROMISES = 58;
    private static final int NONE_YET = -1;
    /** What tells a boundary: an exception, a lack, bounds, what is too much, what is at first or at the end. */
    private static final Pattern BOUNDARY = Pattern.compile("Exception: |NONE|SPENT|\\d+ to \\d+|at most|more than|MISSING"
        + "|at first|without|fresh|\\bempty|nothing|\\btill\\b|as long as|\\bbelow 0|likewise|can't be|beyond|\\(0[ :)]|can be"
        + "|later ones|\\d+ digits|least|modulo|there is no|0s\\b|cut to");

    private static final Map<Integer, String> SECTIONS = new TreeMap<>();
    private static final Map<Integer, List<String>> QUOTED = new TreeMap<>();
    private static int wrong = 0;
    private static int cases = 0;
    private static String at = "";

    private Edge() { }

    /** Where the document is not at hand, the cases are held against their answers alone. */
    static void readDocument() throws IOException {
        if (!Files.exists(DOCUMENT)) {
            System.out.println("no " + DOCUMENT + " to look for the words in");
            return;
        }
        int section = NONE_YET;
        for (String line : Files.readAllLines(DOCUMENT)) {
            if (line.startsWith("## ")) {
                section = sectionOf(line);
            } else if (section != NONE_YET) {
                SECTIONS.merge(section, line, (a, b) -> a + " " + b);
            }
        }
        SECTIONS.replaceAll((k, text) -> text.replaceAll("\\s+", " "));
    }

    private static int sectionOf(String head) {
        Matcher m = Pattern.compile("## Promise (\\d+):.*").matcher(head);
        if (m.matches()) {
            return Integer.parseInt(m.group(1));
        }
        return head.equals("## Terms") || head.equals("## The public face") || head.equals("## What it is") ? TERMS : NONE_YET;
    }

    static void edge(int promise, String words, String name, Case body) {
        cases++;
        at = (promise == TERMS ? "Terms" : "promise " + promise) + ", \"" + words + "\", " + name;
        if (!SECTIONS.isEmpty() && !SECTIONS.getOrDefault(promise, "").contains(words)) {
            miss("the document does not say so");
        }
        QUOTED.computeIfAbsent(promise, k -> new ArrayList<>()).add(words);
        try {
            body.run();
        } catch (RuntimeException e) {
            miss("threw " + e);
        }
    }

    static void is(long want, long got) {
        if (want != got) {
            miss("answered " + got + ", due is " + want);
        }
    }

    static void is(boolean want, boolean got) {
        is(want ? 1 : 0, got ? 1 : 0);
    }

    static void same(String want, String got) {
        if (!want.equals(got)) {
            miss("is [" + got + "], due is [" + want + "]");
        }
    }

    /** The call throws just this, by a throw of the class's own, and changes nothing. */
    static void refuses(Class<?> kind, Made made, Call call) {
        SnowKeeps s = made.make();
        String before = Kit.look(s);
        try {
            call.on(s);
            miss("threw nothing, due is " + kind.getSimpleName());
        } catch (RuntimeException e) {
            StackTraceElement[] trace = e.getStackTrace();
            if (e.getClass() != kind) {
                miss("threw " + e + ", due is " + kind.getSimpleName());
            } else if (trace.length == 0 || !trace[0].getClassName().startsWith("SnowKeeps")) {
                miss("the machine threw " + e);
            }
        }
        same(before, Kit.look(s));
    }

    private static void miss(String what) {
        wrong++;
        System.out.println(at + ": " + what);
    }

    /** Every boundary that the document tells is among the words of some case. */
    private static void lookForUntold() {
        for (int promise = TERMS; promise <= PROMISES; promise++) {
            String text = SECTIONS.getOrDefault(promise, "");
            boolean[] told = new boolean[text.length()];
            for (String words : QUOTED.getOrDefault(promise, List.of())) {
                for (int from = text.indexOf(words); from >= 0; from = text.indexOf(words, from + 1)) {
                    Arrays.fill(told, from, from + words.length(), true);
                }
            }
            if (!QUOTED.containsKey(promise)) {
                wrong++;
                System.out.println("no case of promise " + promise);
            }
            Matcher m = BOUNDARY.matcher(text);
            while (m.find()) {
                if (!told[m.start()] || !told[m.end() - 1]) {
                    wrong++;
                    int end = Math.min(text.length(), m.end() + 40);
                    System.out.println("promise " + promise + " has no case of ..." + text.substring(Math.max(0, m.start() - 30), end));
                }
            }
        }
    }

    static void finish() {
        lookForUntold();
        System.out.println(wrong == 0 ? cases + " boundary cases hold" : wrong + " faults in " + cases + " boundary cases");
        if (wrong != 0) {
            System.exit(1);
        }
    }
}
