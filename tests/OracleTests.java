import java.util.ArrayList;
import java.util.Arrays;
import java.util.HashMap;
import java.util.HashSet;
import java.util.List;
import java.util.NoSuchElementException;
import java.util.Set;
import java.util.TreeSet;

/** Long runs of calls on SnowKeeps and on a slow model that says the document's words most plainly. */
public final class OracleTests {
    private static int wrong = 0;
    private static long x = 20261118;

    private static int draw(int n) {
        x = x * 6364136223846793005L + 1442695040888963407L;
        return (int) ((x >>> 33) % n);
    }

    private static void due(String call, long got, long want, String told) {
        if (got != want) {
            wrong++;
            if (wrong < 40) {
                System.out.println(call + " answered " + got + ", due is " + want + " in " + told);
            }
        }
    }

    record Print(int from, int to, int whose, int number) { }

    /** The model: prints as a list, all else by trying out. */
    static final class Model {
        int places;
        int lines;
        int keep = 20;
        int wolves = 20;
        int every;
        int takes;
        int steps;
        String text = "no plain";
        List<int[]> paths = new ArrayList<>();
        List<Integer> at = new ArrayList<>();
        List<Integer> made = new ArrayList<>();
        List<Integer> next = new ArrayList<>();
        List<List<Integer>> beats = new ArrayList<>();
        List<Print> prints = new ArrayList<>();
        List<Print> all = new ArrayList<>();

        Model copy() {
            Model m = new Model();
            m.places = places;
            m.lines = lines;
            m.keep = keep;
            m.wolves = wolves;
            m.every = every;
            m.takes = takes;
            m.steps = steps;
            m.text = text;
            m.paths = paths;
            m.beats = beats;
            m.at = new ArrayList<>(at);
            m.made = new ArrayList<>(made);
            m.next = new ArrayList<>(next);
            m.prints = new ArrayList<>(prints);
            m.all = new ArrayList<>(all);
            return m;
        }

        int way(int a, int b) {
            for (int k = 0; k < paths.size(); k++) {
                if (paths.get(k)[0] == a && paths.get(k)[1] == b) return 2 * k;
                if (paths.get(k)[1] == a && paths.get(k)[0] == b) return 2 * k + 1;
            }
            return -1;
        }

        int from(int way) { return paths.get(way / 2)[way % 2]; }

        int to(int way) { return paths.get(way / 2)[1 - way % 2]; }

        int why(long w, long place) {
            if (w < 0 || w >= at.size()) return 1;
            return place < 0 || place >= places || way(at.get((int) w), (int) place) < 0 ? 2 : 0;
        }

        void step(int w, int place) {
            Print p = new Print(at.get(w), place, w, all.size());
            at.set(w, place);
            made.set(w, made.get(w) + 1);
            steps++;
            prints.add(p);
            all.add(p);
            if (prints.size() > keep) prints.remove(0);
            if (every > 0 && steps % every == 0) {
                for (int i = 0; i < takes && !prints.isEmpty(); i++) prints.remove(0);
            }
        }

        int turn() {
            int count = 0;
            for (int w = 0; w < at.size(); w++) {
                List<Integer> beat = beats.get(w);
                if (beat.isEmpty()) continue;
                int place = beat.get(next.get(w));
                next.set(w, (next.get(w) + 1) % beat.size());
                if (why(w, place) == 0) {
                    step(w, place);
                    count++;
                }
            }
            return count;
        }

        int[] told(long[] numbers) {
            for (int i = 0; i < numbers.length; i++) {
                long v = numbers[i];
                int why = v < 0 ? 1 : why(v / 100, v % 100);
                if (why != 0) return new int[] {i, why};
                step((int) (v / 100), (int) (v % 100));
            }
            return new int[] {-1, 0};
        }

        int day(int seed, int times) {
            int before = steps;
            long s = seed & 0xffffffffL;
            for (int i = 0; i < times; i++) {
                s = (1103515245L * s + 12345L) & 0xffffffffL;
                int w = (int) ((s >> 16) % at.size());
                TreeSet<Integer> near = new TreeSet<>();
                for (int[] p : paths) {
                    if (p[0] == at.get(w)) near.add(p[1]);
                    if (p[1] == at.get(w)) near.add(p[0]);
                }
                if (near.isEmpty()) continue;
                s = (1103515245L * s + 12345L) & 0xffffffffL;
                step(w, new ArrayList<>(near).get((int) ((s >> 16) % near.size())));
            }
            return steps - before;
        }

        String state() {
            StringBuilder b = new StringBuilder();
            for (Print p : prints) b.append(p.from).append('>').append(p.to).append('w').append(p.whose).append(' ');
            b.append(at).append(next).append(every == 0 ? 0 : steps % every);
            return b.toString();
        }

        int again(int what) {
            Model m = copy();
            HashMap<String, Integer> seen = new HashMap<>();
            for (int t = 0; t <= 120; t++) {
                Integer s = seen.putIfAbsent(m.state(), t);
                if (s != null) return what == 0 ? t - s : s;
                m.turn();
            }
            return -1;
        }

        int printsAlong(int a, int b) {
            int n = 0;
            for (Print p : prints) if (p.from == a && p.to == b) n++;
            return n;
        }

        /** Steps of nobody's along nothing: the eldest goes as soon as there are more than keep. */
        int stepsTill(java.util.function.Predicate<Print> gone) {
            List<Print> left = new ArrayList<>(prints);
            int steps = 0;
            while (left.stream().anyMatch(gone)) {
                left.add(new Print(-1, -1, -1, -1));
                if (left.size() > keep) left.remove(0);
                steps++;
            }
            return steps;
        }

        int remains(int w, int n) {
            List<Print> left = new ArrayList<>(prints);
            for (int i = 0; i < Math.min(n, 1000); i++) {
                left.add(new Print(-1, -1, -1, -1));
                if (left.size() > keep) left.remove(0);
            }
            return (int) left.stream().filter(p -> p.whose == w).count();
        }

        static Set<Integer> onward(List<Print> over, Set<Integer> where) {
            Set<Integer> then = new TreeSet<>();
            for (Print p : over) if (where.contains(p.from)) then.add(p.to);
            return then;
        }

        static int bits(Set<Integer> set) {
            int b = 0;
            for (int p : set) b |= 1 << p;
            return b;
        }

        static Set<Integer> after(List<Print> over, int p, int n) {
            Set<Integer> where = new TreeSet<>(Set.of(p));
            for (int i = 0; i < n; i++) where = onward(over, where);
            return where;
        }

        int hunts(int p, int q) {
            for (int n = 0; n <= 12; n++) if (after(prints, p, n).contains(q)) return n;
            return -1;
        }

        List<Print> remembered() {
            return all.subList(Math.max(0, all.size() - wolves), all.size());
        }

        int meets(int h, int v) {
            Set<Integer> one = new TreeSet<>(Set.of(h));
            Set<Integer> other = new TreeSet<>(Set.of(v));
            for (int n = 0; n <= 60; n++) {
                for (int p : one) if (other.contains(p)) return n;
                one = onward(prints, one);
                other = onward(remembered(), other);
            }
            return -1;
        }

        int[] hound(int p) {
            int last = -1;
            int count = 0;
            int where = p;
            for (boolean more = true; more; ) {
                more = false;
                for (Print q : prints) {
                    if (q.from == where && q.number > last) {
                        last = q.number;
                        where = q.to;
                        count++;
                        more = true;
                        break;
                    }
                }
            }
            return new int[] {count, where};
        }

        /** All rows of exactly n steps from p, in order. */
        List<List<Integer>> walks(int p, int n) {
            List<List<Integer>> out = new ArrayList<>();
            walks(new ArrayList<>(List.of(p)), n, out);
            return out;
        }

        void walks(List<Integer> row, int n, List<List<Integer>> out) {
            if (n == 0) {
                out.add(new ArrayList<>(row));
                return;
            }
            for (int to = 0; to < places; to++) {
                if (way(row.get(row.size() - 1), to) >= 0) {
                    row.add(to);
                    walks(row, n - 1, out);
                    row.remove(row.size() - 1);
                }
            }
        }

        int[] blur(int w, int n) {
            int best = -1;
            int[] answer = null;
            for (int m = 0; m <= n; m++) {
                for (List<Integer> row : walks(at.get(w), m)) {
                    Model t = copy();
                    t.every = 0;
                    for (int i = 1; i <= m; i++) t.step(w, row.get(i));
                    int count = after(t.prints, at.get(w), n).size();
                    if (count > best) {
                        best = count;
                        answer = new int[] {count, m, m > 0 ? row.get(1) : -1, m > 1 ? row.get(2) : -1, m > 2 ? row.get(3) : -1};
                    }
                }
            }
            return answer;
        }

        static boolean home(int[] far, int set, int others, int keep) {
            List<String> snow = new ArrayList<>();
            int max = 0;
            int all = 0;
            for (int g = 0; g < far.length; g++) if ((set >> g & 1) != 0) max = Math.max(max, far[g]);
            int[] out = new int[far.length];
            for (int t = 0; t < max; t++) {
                for (int g = 0; g < far.length; g++) {
                    if ((set >> g & 1) != 0 && out[g] < far[g]) {
                        snow.add("g" + g + "s" + out[g]);
                        out[g]++;
                        if (snow.size() > keep) snow.remove(0);
                    }
                }
                for (int o = 0; o < others; o++) {
                    snow.add("o" + all++);
                    if (snow.size() > keep) snow.remove(0);
                }
            }
            for (int t = 0; t < max; t++) {
                for (int g = 0; g < far.length; g++) {
                    if ((set >> g & 1) != 0 && out[g] > 0) {
                        out[g]--;
                        if (!snow.contains("g" + g + "s" + out[g])) return false;
                        snow.add("back");
                        if (snow.size() > keep) snow.remove(0);
                    }
                }
                for (int o = 0; o < others; o++) {
                    snow.add("o" + all++);
                    if (snow.size() > keep) snow.remove(0);
                }
            }
            return true;
        }

        int homes(int guides, int others) {
            int d = 0;
            while (d < 60) {
                int[] far = new int[guides];
                Arrays.fill(far, d + 1);
                if (!home(far, (1 << guides) - 1, others, keep)) break;
                d++;
            }
            return d;
        }

        int bargain(int[] far) {
            int best = 0;
            long value = -1;
            for (int set = 0; set < 1 << far.length; set++) {
                int sum = 0;
                for (int g = 0; g < far.length; g++) if ((set >> g & 1) != 0) sum += far[g];
                long v = Integer.bitCount(set) * 1000L + sum;
                if (v > value && home(far, set, 0, keep)) {
                    value = v;
                    best = set;
                }
            }
            return best;
        }

        int[] retrace(int w) {
            List<Print> own = new ArrayList<>();
            for (Print p : prints) if (p.whose == w) own.add(0, p);
            int n = 0;
            for (Print p : own) {
                if (!prints.contains(p)) break;
                step(w, p.from);
                n++;
            }
            return new int[] {n, at.get(w)};
        }

        /** Rows that use up the whole bag of ways, in order by places. */
        List<List<Integer>> rows(int p, int[] bag) {
            List<List<Integer>> out = new ArrayList<>();
            rows(new ArrayList<>(List.of(p)), bag.clone(), out);
            return out;
        }

        void rows(List<Integer> row, int[] bag, List<List<Integer>> out) {
            boolean empty = true;
            for (int b : bag) empty &= b == 0;
            if (empty) {
                out.add(new ArrayList<>(row));
                return;
            }
            for (int to = 0; to < places; to++) {
                int way = way(row.get(row.size() - 1), to);
                if (way >= 0 && bag[way] > 0) {
                    bag[way]--;
                    row.add(to);
                    rows(row, bag, out);
                    row.remove(row.size() - 1);
                    bag[way]++;
                }
            }
        }

        int[] bag() {
            int[] bag = new int[32];
            for (Print p : prints) bag[way(p.from, p.to)]++;
            return bag;
        }

        long two(int p, int q, int[] bag, int[] taken, int at) {
            int[] rest = new int[32];
            for (int i = 0; i < 32; i++) rest[i] = bag[i] - taken[i];
            long count = rows(q, rest).size();
            for (int to = 0; to < places; to++) {
                int way = way(at, to);
                if (way >= 0 && taken[way] < bag[way]) {
                    taken[way]++;
                    count += two(p, q, bag, taken, to);
                    taken[way]--;
                }
            }
            return count;
        }

        int[] bagOf(List<Integer> row) {
            int[] bag = new int[32];
            for (int i = 1; i < row.size(); i++) bag[way(row.get(i - 1), row.get(i))]++;
            return bag;
        }

        int clear(int p, int n, boolean only) {
            int count = 0;
            for (List<Integer> row : walks(p, n)) {
                if (!only || rows(p, bagOf(row)).size() == 1) count++;
            }
            return count;
        }

        int signs(int p, int n) {
            Set<Set<Integer>> all = new HashSet<>();
            for (int m = 0; m <= n; m++) {
                for (List<Integer> row : walks(p, m)) {
                    Set<Integer> set = new TreeSet<>();
                    for (int i = Math.max(1, m - keep + 1); i <= m; i++) set.add(way(row.get(i - 1), row.get(i)));
                    all.add(set);
                }
            }
            return all.size() > 2000 ? -1000 : all.size();
        }

        /** Layers of (place, ways gone) as texts; any or only the ways of the sign. */
        int fewest(int p, TreeSet<Integer> sign, boolean any, boolean back, int most) {
            Set<String> seen = new HashSet<>();
            List<Object[]> layer = new ArrayList<>();
            layer.add(new Object[] {p, new TreeSet<Integer>()});
            for (int n = 0; n <= most && !layer.isEmpty(); n++) {
                List<Object[]> then = new ArrayList<>();
                for (Object[] s : layer) {
                    int at = (Integer) s[0];
                    @SuppressWarnings("unchecked") TreeSet<Integer> gone = (TreeSet<Integer>) s[1];
                    if (gone.equals(sign) && (!back || at == p)) return n;
                    for (int to = 0; to < places; to++) {
                        int way = way(at, to);
                        if (way < 0 || !any && !sign.contains(way)) continue;
                        TreeSet<Integer> more = new TreeSet<>(gone);
                        if (sign.contains(way)) more.add(way);
                        if (seen.add(to + " " + more)) then.add(new Object[] {to, more});
                    }
                }
                layer = then;
            }
            return -1;
        }

        int patrol(TreeSet<Integer> sign) {
            if (sign.isEmpty()) return 0;
            int best = -1;
            for (int p = 0; p < places; p++) {
                int n = fewest(p, sign, true, true, 500);
                if (n >= 0 && (best < 0 || n < best)) best = n;
            }
            return best;
        }

        int crowd(TreeSet<Integer> sign) {
            int n = patrol(sign);
            int best = -1;
            for (int m = 0; m <= 60 && n >= 0; m++) if (n * (m + 1) <= keep) best = m;
            return best;
        }

        int distance(int a, int b) {
            for (int n = 0; n <= places; n++) {
                Set<Integer> where = new TreeSet<>(Set.of(a));
                for (int i = 0; i < n; i++) {
                    Set<Integer> then = new TreeSet<>();
                    for (int p : where) for (int to = 0; to < places; to++) if (way(p, to) >= 0) then.add(to);
                    where = then;
                }
                if (where.contains(b)) return n;
            }
            return -1;
        }
    }

    private static String randomText(Model m, int dense) {
        StringBuilder b = new StringBuilder();
        m.places = 1 + draw(10);
        b.append("places ").append(m.places).append(" ;");
        m.lines = 1;
        int wanted = 3 + draw(dense);
        for (int i = 0; i < wanted; i++) {
            int kind = draw(12);
            if (kind < 7) {
                int one = draw(m.places);
                int other = draw(m.places);
                if (one == other || m.way(one, other) >= 0 || m.paths.size() == 16) continue;
                m.paths.add(new int[] {one, other});
                b.append(draw(2) == 0 ? " path " : "\npath\n").append(one).append(' ').append(other).append(';');
            } else if (kind < 9) {
                if (m.at.size() == 4) continue;
                int p = draw(m.places);
                m.at.add(p);
                m.made.add(0);
                m.next.add(0);
                List<Integer> beat = new ArrayList<>();
                b.append("walker ").append(p);
                int length = draw(9);
                for (int k = 0; k < length; k++) {
                    beat.add(draw(m.places));
                    b.append(k == 0 ? " beat " : " ").append(beat.get(k));
                }
                m.beats.add(beat);
                b.append(";");
            } else if (kind == 9) {
                m.keep = draw(3) == 0 ? 1 + draw(60) : 1 + draw(14);
                b.append("keep ").append(m.keep).append(" ; ");
            } else if (kind == 10) {
                m.every = 1 + draw(20);
                m.takes = draw(6);
                b.append("storm ").append(m.every).append(' ').append(m.takes).append(";");
            } else {
                m.wolves = 1 + draw(99);
                b.append("wolves ").append(m.wolves).append(";");
            }
            m.lines++;
        }
        return b.toString();
    }

    /** Asks all that asking does not change. */
    private static void compare(SnowKeeps s, Model m, String told) {
        due("count(5)", s.count(5), m.prints.size(), told);
        due("count(6)", s.count(6), m.steps, told);
        due("count(4)", s.count(4), m.keep, told);
        for (int k = 0; k < m.prints.size(); k++) {
            due("print from", s.print(k, 0), m.prints.get(k).from, told);
            due("print to", s.print(k, 1), m.prints.get(k).to, told);
            due("print whose", s.print(k, 2), m.prints.get(k).whose, told);
        }
        List<Print> old = m.remembered();
        due("wolves()", s.wolves(), old.size(), told);
        for (int k = 0; k < old.size(); k++) {
            due("wolf from", s.wolf(k, 0), old.get(k).from, told);
            due("wolf to", s.wolf(k, 1), old.get(k).to, told);
            due("wolf whose", s.wolf(k, 2), old.get(k).whose, told);
        }
        for (int w = 0; w < m.at.size(); w++) {
            compareWalker(s, m, w, told);
        }
        for (int a = 0; a < m.places; a++) {
            comparePlace(s, m, a, told);
        }
        int bare = 0;
        for (int k = 0; k < m.paths.size(); k++) {
            int there = m.printsAlong(m.paths.get(k)[0], m.paths.get(k)[1]);
            int back = m.printsAlong(m.paths.get(k)[1], m.paths.get(k)[0]);
            due("path 2", s.path(k, 2), there, told);
            due("path 3", s.path(k, 3), back, told);
            if (there + back == 0) bare |= 1 << k;
        }
        due("bare()", s.bare(), bare, told);
        due("again(0)", s.again(0), m.again(0), told);
        due("again(1)", s.again(1), m.again(1), told);
    }

    private static void compareWalker(SnowKeeps s, Model m, int w, String told) {
        due("walker 0", s.walker(w, 0), m.at.get(w), told);
        due("walker 1", s.walker(w, 1), m.made.get(w), told);
        due("walker 2", s.walker(w, 2), m.prints.stream().filter(p -> p.whose == w).count(), told);
        due("walker 3", s.walker(w, 3), m.prints.stream().filter(p -> p.whose == w).mapToInt(p -> p.from).findFirst().orElse(-1), told);
        due("beat next", s.beat(w, -1), m.next.get(w), told);
        due("hired", s.hired(w), m.stepsTill(p -> p.whose == w), told);
        int each = 1 + draw(30);
        due("hires", s.hires(w, each), (long) Math.ceil(m.stepsTill(p -> p.whose == w) / (double) each), told);
        int n = draw(10) == 0 ? Integer.MAX_VALUE : draw(70);
        due("remains", s.remains(w, n), m.remains(w, n), told);
        int[] back = m.copy().retrace(w);
        due("retrace 0", s.retrace(w, 0), back[0], told);
        due("retrace 1", s.retrace(w, 1), back[1], told);
        for (int v = 0; v < m.at.size(); v++) {
            Set<Integer> one = new TreeSet<>();
            Set<Integer> other = new TreeSet<>();
            for (Print p : m.prints) {
                if (p.whose == w) one.addAll(List.of(p.from, p.to));
                if (p.whose == v) other.addAll(List.of(p.from, p.to));
            }
            one.retainAll(other);
            due("crossing", s.crossing(w, v), Model.bits(one), told);
        }
    }

    private static void comparePlace(SnowKeeps s, Model m, int a, String told) {
        Set<Integer> out = new TreeSet<>();
        Set<Integer> in = new TreeSet<>();
        for (Print p : m.prints) {
            if (p.from == a) out.add(p.to);
            if (p.to == a) in.add(p.from);
        }
        due("seen leaving", s.seen(a, true), Model.bits(out), told);
        due("seen coming", s.seen(a, false), Model.bits(in), told);
        due("hound 0", s.hound(a, 0), m.hound(a)[0], told);
        due("hound 1", s.hound(a, 1), m.hound(a)[1], told);
        int n = draw(61);
        due("hunter", s.hunter(a, n), Model.bits(Model.after(m.prints, a, n)), told);
        for (int b = 0; b < m.places; b++) {
            final int to = b;
            due("prints", s.prints(a, b), m.printsAlong(a, b), told);
            due("fades", s.fades(a, b), m.stepsTill(p -> p.from == a && p.to == to), told);
            int age = -1;
            for (int k = 0; k < m.prints.size(); k++) {
                if (m.prints.get(k).from == a && m.prints.get(k).to == b) age = m.prints.size() - 1 - k;
            }
            due("age", s.age(a, b), age, told);
            due("hunts", s.hunts(a, b), m.hunts(a, b), told);
            due("distance", s.distance(a, b), m.distance(a, b), told);
            if (draw(10) == 0) due("meets", s.meets(a, b), m.meets(a, b), told);
        }
    }

    private static void compareDear(SnowKeeps s, Model m, String told) {
        for (int w = 0; w < m.at.size(); w++) {
            for (int n = 0; n <= 3; n++) {
                int[] blur = m.blur(w, n);
                due("blur 0", s.blur(w, n, 0), blur[0], told);
                due("blur 1", s.blur(w, n, 1), blur[1], told);
                for (int k = 0; k < 3; k++) due("blur row", s.blur(w, n, 10 + k), blur[2 + k], told);
            }
        }
        int guides = 1 + draw(4);
        int others = draw(10);
        due("homes " + guides + " " + others, s.homes(guides, others), m.homes(guides, others), told);
        guides = 1 + draw(4);
        due("homes " + guides + " 0", s.homes(guides, 0), m.homes(guides, 0), told);
        int[] far = new int[1 + draw(4)];
        s.tray(1, draw(4), far.length);
        for (int i = 0; i < far.length; i++) {
            far[i] = draw(3) == 0 ? draw(31) : draw(8);
            s.write(1, i, far[i]);
        }
        due("bargain " + Arrays.toString(far), s.bargain(1), m.bargain(far), told);
        for (int p = 0; p < m.places; p++) {
            int n = draw(m.paths.size() > 8 ? 5 : 6);
            due("clear " + p + " " + n, s.clear(p, n, false), m.clear(p, n, false), told);
            due("clear only " + p + " " + n, s.clear(p, n, true), m.clear(p, n, true), told);
            n = draw(7);
            due("signs " + p + " " + n, s.signs(p, n), m.signs(p, n), told);
        }
        compareSign(s, m, told);
    }

    private static void compareSign(SnowKeeps s, Model m, String told) {
        if (m.paths.isEmpty()) return;
        TreeSet<Integer> sign = new TreeSet<>();
        int many = draw(4) == 0 ? 6 + draw(12) : draw(6);
        s.tray(2, draw(4), many);
        int start = draw(m.places);
        int at = start;
        for (int i = 0; i < many; i++) {
            int way = draw(2 * m.paths.size());
            if (draw(4) > 0) {
                // along a walk, so that it can be written more often
                List<List<Integer>> near = m.walks(at, 1);
                if (!near.isEmpty()) {
                    int to = near.get(draw(near.size())).get(1);
                    way = m.way(at, to);
                    at = to;
                }
            }
            sign.add(way);
            s.write(2, i, way);
        }
        if (sign.size() > 8) {
            refuses("patrol " + sign, () -> s.patrol(2), told);
            refuses("lasts " + sign, () -> s.lasts(2), told);
            return;
        }
        int pens = 0;
        for (int p = 0; p < m.places; p++) {
            int n = m.fewest(p, sign, false, false, m.keep);
            due("writes " + sign + p, s.writes(p, 2), n, told);
            if (n >= 0) pens |= 1 << p;
        }
        due("pens " + sign, s.pens(2), pens, told);
        int round = m.patrol(sign);
        due("patrol " + sign, s.patrol(2), round, told);
        due("tends " + sign, s.tends(2) ? 1 : 0, round >= 0 && round <= m.keep ? 1 : 0, told);
        due("crowd " + sign, s.crowd(2), m.crowd(sign), told);
        int lasts = sign.isEmpty() ? -1 : Integer.MAX_VALUE;
        for (int way : sign) lasts = Math.min(lasts, m.stepsTill(p -> p.from == m.from(way) && p.to == m.to(way)));
        due("lasts " + sign, s.lasts(2), lasts, told);
        TreeSet<Integer> read = new TreeSet<>();
        for (Print p : m.prints) read.add(m.way(p.from, p.to));
        int places = draw(12);
        s.tray(2, draw(4), places);
        due("reads", s.reads(2), Math.min(places, read.size()), told);
    }

    private static void refuses(String call, java.util.function.IntSupplier made, String told) {
        try {
            due(call + ", which is refused,", made.getAsInt(), Long.MIN_VALUE, told);
        } catch (IllegalArgumentException e) {
            return;
        }
    }

    private static void compareRows(SnowKeeps s, Model m, String told) {
        boolean spent = m.prints.size() > 14;
        int starts = 0;
        for (int p = 0; p < m.places; p++) {
            List<List<Integer>> rows = spent ? List.of() : m.rows(p, m.bag());
            due("rows " + p, s.rows(p), spent ? -1000 : rows.size(), told);
            if (!rows.isEmpty()) starts |= 1 << p;
            Set<Integer> first = new TreeSet<>();
            Set<Integer> last = new TreeSet<>();
            for (List<Integer> row : rows) {
                if (row.size() > 1) {
                    first.add(m.way(row.get(0), row.get(1)));
                    last.add(m.way(row.get(row.size() - 2), row.get(row.size() - 1)));
                }
            }
            due("sure first " + p, s.sure(p, true), first.size() == 1 ? first.iterator().next() : -1, told);
            due("sure last " + p, s.sure(p, false), last.size() == 1 ? last.iterator().next() : -1, told);
            for (int t = 0; t < 4; t++) {
                int k = draw(rows.size() + 1);
                int i = draw(m.prints.size() + 2);
                int want = k < rows.size() && i <= m.prints.size() ? rows.get(k).get(i) : -1;
                due("row " + p + " " + k + " " + i, s.row(p, k, i), want, told);
            }
            int q = draw(m.places);
            long want = m.prints.size() > 8 ? -1000 : m.two(p, q, m.bag(), new int[32], p);
            due("two " + p + " " + q, s.two(p, q), want, told);
        }
        due("starts", s.starts(), spent ? -1000 : starts, told);
    }

    /** One call that changes something, on both. */
    private static void change(SnowKeeps s, Model m, String told) {
        int w = draw(m.at.size() + 1);
        int kind = draw(11);
        if (kind < 3) {
            int place = draw(m.places + 1) - draw(2);
            int why = m.why(w, place);
            if (why == 0) m.step(w, place);
            due("step", s.step(w, place), why == 0 ? m.prints.size() : -why, told);
        } else if (kind < 5) {
            int n = 1 + draw(draw(5) == 0 ? 60 : 4);
            int steps = 0;
            for (int i = 0; i < n; i++) steps += m.turn();
            due("rounds", s.rounds(n), steps, told);
        } else if (kind < 7 && !m.at.isEmpty()) {
            int seed = (int) (x >>> 20);
            int times = 1 + draw(draw(4) == 0 ? 60 : 6);
            due("day", s.day(seed, times), m.day(seed, times), told);
        } else if (kind == 7 && w < m.at.size()) {
            due("goesBack", s.goesBack(w), m.retrace(w)[0], told);
        } else if (kind == 8) {
            told(s, m, told);
        } else if (kind == 9) {
            int n = draw(m.prints.size() + 1) / (1 + draw(4));
            for (int i = 0; i < n; i++) m.prints.remove(0);
            due("storm", s.storm(n), m.prints.size(), told);
        } else if (kind == 10) {
            m.keep = 1 + draw(draw(3) == 0 ? 60 : 14);
            while (m.prints.size() > m.keep) m.prints.remove(0);
            due("keep", s.keep(m.keep), m.prints.size(), told);
        }
    }

    private static void told(SnowKeeps s, Model m, String told) {
        int sort = draw(4);
        long[] v = new long[draw(6)];
        s.tray(0, sort, v.length);
        for (int i = 0; i < v.length; i++) {
            v[i] = draw(12) == 0 ? x : 100 * draw(m.at.size() + 1) + draw(m.places);
            v[i] = s.write(0, i, v[i]);
        }
        Model trial = m.copy();
        int[] judged = trial.told(v);
        due("judge 0", s.judge(0, 0), judged[0], told);
        due("judge 1", s.judge(0, 1), judged[1], told);
        due("judge 2", s.judge(0, 2), trial.prints.size(), told);
        due("judge 3", s.judge(0, 3), trial.prints.stream().map(p -> p.from + ">" + p.to).distinct().count(), told);
        int a = draw(m.places);
        int b = draw(m.places);
        due("behind", s.behind(0, a, b), trial.printsAlong(a, b), told);
        if (draw(2) == 0) {
            m.told(v);
            due("perform", s.perform(0), judged[0] < 0 ? v.length : judged[0], told);
        }
    }

    /** Another plain on the same object, or a text with a fault, behind which all but the fault stays. */
    private static Model tell(SnowKeeps s, Model before, int number, String how) {
        if (how.equals("fault")) {
            String text = "places 3;path 0 1;walker 0;keep 1;path 1 1;";
            Kit.feed(s, text);
            due("plain with a fault", s.plain(text.length()), -13, text);
            due("fault(1)", s.fault(1), text.length() - 2, text);
            return before;
        }
        Model m = new Model();
        String text = randomText(m, number % 3 == 0 ? 60 : 22);
        while (text.length() > 600) {
            m = new Model();
            text = randomText(m, 22);
        }
        Kit.feed(s, text);
        due("plain", s.plain(text.length()), m.lines, text);
        due("fault(0)", s.fault(0), 0, text);
        m.text = number + ": " + text.replace('\n', ' ');
        return m;
    }

    /** What is as the text told it. */
    private static void comparePlain(SnowKeeps s, Model m) {
        int[] want = {m.lines, m.places, m.paths.size(), m.at.size(), m.keep, m.prints.size(), m.steps, 0, m.every, m.takes, m.wolves};
        for (int what = 0; what < want.length; what++) {
            due("count(" + what + ")", s.count(what), want[what], m.text);
        }
        for (int k = 0; k < m.paths.size(); k++) {
            due("path 0", s.path(k, 0), m.paths.get(k)[0], m.text);
            due("path 1", s.path(k, 1), m.paths.get(k)[1], m.text);
        }
        for (int w = 0; w < m.at.size(); w++) {
            for (int k = 0; k < m.beats.get(w).size(); k++) due("beat", s.beat(w, k), m.beats.get(w).get(k), m.text);
        }
    }

    private static void run(int number) {
        SnowKeeps s = new SnowKeeps();
        Model m = tell(s, new Model(), number, "plain");
        Model[] images = new Model[3];
        for (int i = 0; i < 12; i++) {
            change(s, m, m.text);
            compare(s, m, m.text);
            compareRows(s, m, m.text);
            if (i % 6 == 5) compareDear(s, m, m.text);
            int slot = draw(3);
            if (draw(3) == 0) {
                s.image(slot);
                images[slot] = m.copy();
            } else if (draw(3) == 0 && images[slot] != null) {
                s.restore(slot);
                m = images[slot].copy();
            } else if (draw(6) == 0) {
                m = tell(s, m, number, draw(2) == 0 ? "fault" : "plain");
            }
            comparePlain(s, m);
        }
        compare(s, m, m.text);
    }

    public static void main(String[] args) {
        int runs = args.length > 0 ? Integer.parseInt(args[0]) : 150;
        if (args.length > 1) x = Long.parseLong(args[1]);
        for (int i = 0; i < runs; i++) {
            run(i);
        }
        System.out.println(wrong == 0 ? "the model answers alike" : wrong + " answers unlike the model's");
        if (wrong != 0) System.exit(1);
    }
}
