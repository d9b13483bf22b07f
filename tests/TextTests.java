import java.util.ArrayList;
import java.util.List;
import java.util.regex.Matcher;
import java.util.regex.Pattern;

/** Promises 3 and 4: FAULTS of texts told by hand, and of many spoilt texts as a second reader finds them. */
public final class TextTests {
    private static int wrong = 0;
    private static long x = 58;

    private static int draw(int n) {
        x = x * 6364136223846793005L + 1442695040888963407L;
        return (int) ((x >>> 33) % n);
    }

    private static void due(String text, int answer, int place) {
        SnowKeeps s = new SnowKeeps();
        int got = Kit.tell(s, text);
        if (got != answer || s.fault(1) != place || s.fault(0) != (answer < 0 ? -10 - answer : 0)) {
            wrong++;
            System.out.println(got + " at " + s.fault(1) + ", due is " + answer + " at " + place + ": " + text);
        }
    }

    private static void byHand() {
        due("places 1;", 1, -1);
        due("places10;path0 1;walker 3beat 4 5;", 3, -1);
        due("\n places\n001 ; \n", 1, -1);
        due("places 10;keep 1;keep 60;storm 1 0;storm 99 60;wolves 1;wolves 99;", 7, -1);
        due("", -12, 0);
        due("   ", -12, 3);
        due(";", -12, 0);
        due("place 1;", -12, 0);
        due("zoo", -12, 0);
        due("places 1;a", -12, 9);
        due("Places 1;", -11, 0);
        due("places\t1;", -11, 6);
        due("places ;", -12, 7);
        due("places 0;", -13, 7);
        due("places 11;", -13, 7);
        due("places 1 1;", -12, 9);
        due("places 1;;", -12, 9);
        due("places 1;beat 0;", -12, 9);
        due("places 1;7;", -12, 9);
        due("places 1;places 1;", -12, 9);
        due("places 0001;", -11, 7);
        due("places 1;0000", -11, 9);
        due("places 1" + (char) 233, -11, 8);
        due("places 1" + (char) 0, -11, 8);
        due("places 2;path 2 0;", -13, 14);
        due("places 2;path 0 1 0;", -12, 18);
        due("places 2;path 0;", -12, 15);
        due("places 2;path 0 1;path 0 1;", -13, 25);
        due("places 2;path 0 1;path 1 0", -13, 25);
        due("places 2;path 1 1;", -13, 16);
        due("places 1;path 0 0;", -13, 16);
        due("places 2;walker 2;", -13, 16);
        due("places 2;walker beat 0;", -12, 16);
        due("places 2;walker 0 0;", -12, 18);
        due("places 2;walker 0 beat;", -12, 22);
        due("places 2;walker 0 beat 2;", -13, 23);
        due("places 2;walker 0 beat 0 beat 1;", -12, 25);
        due("places 2;walker 0 beat 0 1 0 1 0 1 0 1;", 2, -1);
        due("places 2;walker 0 beat 0 1 0 1 0 1 0 1 0;", -14, 39);
        due("places 2;walker 0 beat 0 1 0 1 0 1 0 1 2;", -13, 39);
        due("places 2;walker 0 beat 0 1 0 1 0 1 0 1 0000;", -11, 39);
        due("places 2;walker 0;walker 0;walker 0;walker 0;walker!", -14, 45);
        due("places 1;keep 0;", -13, 14);
        due("places 1;keep 61;", -13, 14);
        due("places 1;keep 60", -12, 16);
        due("places 1;storm 0 0;", -13, 15);
        due("places 1;storm 100 0;", -13, 15);
        due("places 1;storm 1 61;", -13, 17);
        due("places 1;storm 1;", -12, 16);
        due("places 1;wolves 0;", -13, 16);
        due("places 1;wolves 100;", -13, 16);
        String paths = Kit.sixteenPaths();
        due(paths, 17, -1);
        due(paths + "path", -14, paths.length());
        due(paths + "pathx", -12, paths.length());
    }

    /** The kind and the place of each TOKEN, by a pattern. */
    record Token(String what, int at) { }

    private static List<Token> tokens(String text) {
        List<Token> tokens = new ArrayList<>();
        Matcher m = Pattern.compile("[a-z]+|[0-9]+|;|[^ \n]").matcher(text);
        while (m.find()) {
            tokens.add(new Token(m.group(), m.start()));
        }
        tokens.add(new Token("", text.length()));
        return tokens;
    }

    private static boolean isNumber(String t) {
        return t.matches("[0-9]{1,3}");
    }

    /** A second reader: what may stand is a list of words; answers {kind, place} or {0, lines}. */
    private static int[] read(String text) {
        int places = 0;
        int lines = 0;
        int walkers = 0;
        List<String> paths = new ArrayList<>();
        String state = "places";
        int first = 0;
        int beats = 0;
        for (Token t : tokens(text)) {
            String w = t.what;
            int at = t.at;
            if (!w.isEmpty() && !w.equals(";") && !w.matches("[a-z]+") && !isNumber(w)) return new int[] {1, at};
            int n = isNumber(w) ? Integer.parseInt(w) : -1;
            switch (state) {
                case "places":
                    if (!w.equals("places")) return new int[] {2, at};
                    state = "number of places";
                    break;
                case "number of places":
                    if (n < 0) return new int[] {2, at};
                    if (n < 1 || n > 10) return new int[] {3, at};
                    places = n;
                    state = ";";
                    break;
                case "line":
                    if (w.isEmpty()) return new int[] {0, lines};
                    if (!List.of("path", "walker", "keep", "storm", "wolves").contains(w)) return new int[] {2, at};
                    if (w.equals("path") && paths.size() == 32 || w.equals("walker") && walkers == 4) return new int[] {4, at};
                    state = w;
                    break;
                case "path":
                    if (n < 0) return new int[] {2, at};
                    if (n >= places) return new int[] {3, at};
                    first = n;
                    state = "second";
                    break;
                case "second":
                    if (n < 0) return new int[] {2, at};
                    if (n >= places || n == first || paths.contains(first + "-" + n)) return new int[] {3, at};
                    paths.add(first + "-" + n);
                    paths.add(n + "-" + first);
                    state = ";";
                    break;
                case "walker":
                    if (n < 0) return new int[] {2, at};
                    if (n >= places) return new int[] {3, at};
                    walkers++;
                    state = "beat or ;";
                    break;
                case "beat or ;":
                    if (!w.equals("beat")) {
                        if (!w.equals(";")) return new int[] {2, at};
                        lines++;
                        state = "line";
                        break;
                    }
                    beats = 0;
                    state = "beat";
                    break;
                case "beat":
                    if (w.equals(";") && beats > 0) {
                        lines++;
                        state = "line";
                        break;
                    }
                    if (n < 0) return new int[] {2, at};
                    if (n >= places) return new int[] {3, at};
                    if (beats == 8) return new int[] {4, at};
                    beats++;
                    break;
                case "storm":
                    if (n < 0) return new int[] {2, at};
                    if (n < 1 || n > 99) return new int[] {3, at};
                    state = "takes";
                    break;
                case "keep":
                case "wolves":
                case "takes":
                    if (n < 0) return new int[] {2, at};
                    int least = state.equals("takes") ? 0 : 1;
                    int most = state.equals("wolves") ? 99 : 60;
                    if (n < least || n > most) return new int[] {3, at};
                    state = ";";
                    break;
                default:
                    if (!w.equals(";")) return new int[] {2, at};
                    lines++;
                    state = "line";
            }
        }
        return new int[] {2, text.length()};
    }

    private static final String[] PIECES = {"places", "path", "walker", "beat", "keep", "storm", "wolves", ";", " ", "\n",
        "0", "1", "2", "9", "10", "60", "61", "99", "100", "1000", "x", "!", "\u00e9"};

    private static String randomText() {
        StringBuilder b = new StringBuilder("places " + (1 + draw(10)) + ";");
        int many = draw(40);
        for (int i = 0; i < many; i++) {
            int kind = draw(6);
            if (kind < 2) b.append("path ").append(draw(10)).append(' ').append(draw(10));
            if (kind == 2) b.append("keep ").append(draw(70));
            if (kind == 3) b.append("storm ").append(draw(110)).append(' ').append(draw(70));
            if (kind == 4) b.append("wolves ").append(draw(110));
            if (kind == 5) {
                b.append("walker ").append(draw(8));
                int beats = draw(4) == 0 ? draw(11) : 0;
                for (int k = 0; k < beats; k++) b.append(k == 0 ? " beat " : " ").append(draw(3));
            }
            b.append(draw(2) == 0 ? ";" : " ; ");
        }
        int spoilt = draw(4);
        for (int i = 0; i < spoilt; i++) {
            int at = draw(b.length() + 1);
            int end = Math.min(b.length(), at + (draw(3) == 0 ? 1 : 0));
            b.replace(at, end, PIECES[draw(PIECES.length)]);
        }
        return b.length() > 600 ? b.substring(0, 600) : b.toString();
    }

    private static void spoilt() {
        int[] kinds = new int[5];
        for (int i = 0; i < 30000; i++) {
            String text = randomText();
            int[] want = read(text);
            kinds[want[0]]++;
            due(text, want[0] == 0 ? want[1] : -10 - want[0], want[0] == 0 ? -1 : want[1]);
        }
        for (int kind = 0; kind < 5; kind++) {
            if (kinds[kind] < 50) {
                wrong++;
                System.out.println("too few texts of fault " + kind + ": " + kinds[kind]);
            }
        }
    }

    public static void main(String[] args) {
        byHand();
        spoilt();
        System.out.println(wrong == 0 ? "all texts are read as due" : wrong + " texts are not read as due");
        if (wrong != 0) System.exit(1);
    }
}
