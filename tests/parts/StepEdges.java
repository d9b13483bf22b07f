import java.util.ArrayList;
import java.util.Arrays;
import java.util.List;

/** Boundary cases of paths, walkers, prints and steps: promises 5 to 19, 58, and what "Terms" says of them. */
final class StepEdges {
    private StepEdges() { }

    private static final String LONG_BEAT = "places 2;path 0 1;walker 0;walker 0 beat 1 0 1 0 1 0 1 0;keep 60;storm 15 60;";

    static void run() {
        paths();
        distance();
        walker();
        print();
        keep();
        keepAndStorms();
        step();
        storm();
        noon();
        rounds();
        beat();
        again();
        toldNumbers();
        judge();
        performAndBehind();
        day();
        draws();
        count();
    }

    private static void paths() {
        String none = "NoSuchElementException: no such PATH";
        Edge.edge(5, none, "below 0", () -> Edge.refuses(Edge.NO_SUCH, Kit::walked, s -> s.path(-1, 0)));
        Edge.edge(5, none, "one above the last", () -> Edge.refuses(Edge.NO_SUCH, Kit::walked, s -> s.path(4, 0)));
        Edge.edge(5, none, "far off", () -> {
            Edge.refuses(Edge.NO_SUCH, Kit::walked, s -> s.path(Integer.MAX_VALUE, 0));
            Edge.refuses(Edge.NO_SUCH, Kit::walked, s -> s.path(Integer.MIN_VALUE, 0));
        });
        Edge.edge(5, none, "without a plain", () -> Edge.refuses(Edge.NO_SUCH, SnowKeeps::new, s -> s.path(0, 0)));
        Edge.edge(5, none, "told ahead of another what", () -> Edge.refuses(Edge.NO_SUCH, Kit::walked, s -> s.path(4, 4)));
        String what = "IllegalArgumentException: another what.";
        Edge.edge(5, what, "4", () -> Edge.refuses(Edge.ARGUMENT, Kit::walked, s -> s.path(0, 4)));
        Edge.edge(5, what, "-1", () -> Edge.refuses(Edge.ARGUMENT, Kit::walked, s -> s.path(3, -1)));
        Edge.edge(5, "2: PRINTS from the first to the second, 3: the other way.", "none, one, one each way", () -> {
            SnowKeeps s = Kit.of(Kit.PAIR);
            Edge.is(0, s.path(0, 2));
            Edge.is(0, s.path(0, 3));
            Kit.go(s, 0, 1);
            Edge.is(1, s.path(0, 2));
            Edge.is(0, s.path(0, 3));
            Kit.go(s, 0, 0, 0, 1);
            Edge.is(2, s.path(0, 2));
            Edge.is(1, s.path(0, 3));
        });
        Edge.edge(Edge.TERMS, "WAYS are numbered: 2 times the PATH, 1 more if from the PLACE told second to the first.", "the last way is 31", () -> {
            SnowKeeps s = Kit.of(Kit.sixteenPaths() + "walker 4;");
            Kit.fill(s, 0, 0, 31);
            Edge.is(1, s.writes(4, 0));
            Edge.is(-1, s.writes(3, 0));
            Kit.fill(s, 0, 0, 30);
            Edge.is(1, s.writes(3, 0));
            Kit.go(s, 0, 3);
            Edge.is(31, s.starts() == 1 << 4 ? s.sure(4, true) : -2);
        });
        Edge.edge(Edge.TERMS, "WAYS are numbered: 2 times the PATH, 1 more if from the PLACE told second to the first.", "there is no way 32", () ->
            Edge.refuses(Edge.ARGUMENT, () -> {
                SnowKeeps s = Kit.of(Kit.sixteenPaths());
                Kit.fill(s, 0, 0, 32);
                return s;
            }, s -> s.pens(0)));
    }

    private static void distance() {
        String fewest = "The fewest STEPS from a PLACE to another one; NONE: there is no way.";
        Edge.edge(6, fewest, "to itself", () -> Edge.is(0, Kit.of("places 2;").distance(1, 1)));
        Edge.edge(6, fewest, "no way", () -> {
            SnowKeeps s = Kit.of("places 4;path 0 1;path 2 3;");
            Edge.is(-1, s.distance(0, 3));
            Edge.is(-1, s.distance(3, 1));
        });
        Edge.edge(6, fewest, "along all ten places", () -> {
            SnowKeeps s = Kit.of("places 10;path 0 1;path 2 1;path 2 3;path 3 4;path 5 4;path 5 6;path 6 7;path 7 8;path 8 9;");
            Edge.is(9, s.distance(0, 9));
            Edge.is(9, s.distance(9, 0));
            Edge.is(8, s.distance(1, 9));
        });
        Edge.edge(6, fewest, "prints or none are all the same", () -> Edge.is(1, Kit.walked().distance(1, 0)));
        Edge.edge(6, fewest, "no way any more, on another plain", () -> {
            SnowKeeps s = Kit.of(Kit.RING);
            Edge.is(1, s.distance(0, 1));
            Kit.tell(s, "places 4;path 2 1;");
            Edge.is(-1, s.distance(0, 1));
            Edge.is(-1, s.distance(1, 0));
        });
        String none = "NoSuchElementException: one of both is none (as everywhere).";
        Edge.edge(6, none, "the first, below and above", () -> {
            Edge.refuses(Edge.NO_SUCH, Kit::walked, s -> s.distance(-1, 0));
            Edge.refuses(Edge.NO_SUCH, Kit::walked, s -> s.distance(4, 0));
            Edge.refuses(Edge.NO_SUCH, Kit::walked, s -> s.distance(Integer.MIN_VALUE, 0));
        });
        Edge.edge(6, none, "the second, below and above", () -> {
            Edge.refuses(Edge.NO_SUCH, Kit::walked, s -> s.distance(0, -1));
            Edge.refuses(Edge.NO_SUCH, Kit::walked, s -> s.distance(0, 4));
            Edge.refuses(Edge.NO_SUCH, Kit::walked, s -> s.distance(0, Integer.MAX_VALUE));
        });
        Edge.edge(6, none, "the same one that is none", () -> Edge.refuses(Edge.NO_SUCH, Kit::walked, s -> s.distance(4, 4)));
        Edge.edge(6, none, "without a plain", () -> Edge.refuses(Edge.NO_SUCH, SnowKeeps::new, s -> s.distance(0, 0)));
    }

    private static void walker() {
        String kept = "1: STEPS since THE PLAIN was told, 2: PRINTS of its that are kept, 3: from where its eldest kept one goes (NONE).";
        Edge.edge(7, kept, "none is kept yet", () -> {
            SnowKeeps s = Kit.of(Kit.RING);
            Edge.is(0, s.walker(0, 1));
            Edge.is(0, s.walker(0, 2));
            Edge.is(-1, s.walker(0, 3));
        });
        Edge.edge(7, kept, "none is kept any more", () -> {
            SnowKeeps s = Kit.walked();
            s.noon();
            Edge.is(3, s.walker(0, 1));
            Edge.is(0, s.walker(0, 2));
            Edge.is(-1, s.walker(0, 3));
        });
        Edge.edge(7, kept, "one is kept, from place 0, then none", () -> {
            SnowKeeps s = Kit.of("places 2;path 0 1;walker 0;walker 0;keep 1;");
            Kit.go(s, 0, 1);
            Edge.is(0, s.walker(0, 3));
            Kit.go(s, 1, 1);
            Edge.is(-1, s.walker(0, 3));
            Edge.is(0, s.walker(1, 3));
        });
        Edge.edge(7, kept, "steps that can't be are none", () -> {
            SnowKeeps s = Kit.of(Kit.RING);
            s.step(0, 2);
            Edge.is(0, s.walker(0, 1));
        });
        String none = "NoSuchElementException: no such WALKER (as everywhere)";
        Edge.edge(7, none, "below and above", () -> {
            Edge.refuses(Edge.NO_SUCH, Kit::walked, s -> s.walker(-1, 0));
            Edge.refuses(Edge.NO_SUCH, Kit::walked, s -> s.walker(2, 0));
            Edge.refuses(Edge.NO_SUCH, Kit::walked, s -> s.walker(Integer.MAX_VALUE, 0));
            Edge.refuses(Edge.NO_SUCH, Kit::walked, s -> s.walker(Integer.MIN_VALUE, 0));
        });
        Edge.edge(7, none, "without walkers", () -> Edge.refuses(Edge.NO_SUCH, () -> Kit.of("places 2;"), s -> s.walker(0, 0)));
        Edge.edge(7, none, "told ahead of another what", () -> Edge.refuses(Edge.NO_SUCH, Kit::walked, s -> s.walker(2, 4)));
        String what = "IllegalArgumentException: another what.";
        Edge.edge(7, what, "4", () -> Edge.refuses(Edge.ARGUMENT, Kit::walked, s -> s.walker(1, 4)));
        Edge.edge(7, what, "-1", () -> Edge.refuses(Edge.ARGUMENT, Kit::walked, s -> s.walker(0, -1)));
    }

    private static void print() {
        String none = "Of the k-th PRINT (the eldest is 0), what 0: from, 1: to, 2: whose. NoSuchElementException: no such PRINT";
        Edge.edge(8, none, "the eldest and the latest", () -> {
            SnowKeeps s = Kit.walked();
            Edge.is(0, s.print(0, 0));
            Edge.is(1, s.print(0, 1));
            Edge.is(0, s.print(0, 2));
            Edge.is(3, s.print(4, 0));
            Edge.is(0, s.print(4, 1));
            Edge.is(1, s.print(4, 2));
        });
        Edge.edge(8, none, "the 60th", () -> Edge.is(1, Kit.toAndFro(Kit.of(Kit.PAIR + "keep 60;"), 62).print(59, 0)));
        Edge.edge(8, none, "one above the latest", () -> Edge.refuses(Edge.NO_SUCH, Kit::walked, s -> s.print(5, 0)));
        Edge.edge(8, none, "below 0", () -> Edge.refuses(Edge.NO_SUCH, Kit::walked, s -> s.print(-1, 0)));
        Edge.edge(8, none, "on fresh snow", () -> Edge.refuses(Edge.NO_SUCH, () -> Kit.of(Kit.RING), s -> s.print(0, 0)));
        Edge.edge(8, none, "behind a noon", () -> Edge.refuses(Edge.NO_SUCH, () -> {
            SnowKeeps s = Kit.walked();
            s.noon();
            return s;
        }, s -> s.print(0, 0)));
        Edge.edge(8, none, "far off", () -> {
            Edge.refuses(Edge.NO_SUCH, Kit::walked, s -> s.print(Integer.MAX_VALUE, 0));
            Edge.refuses(Edge.NO_SUCH, Kit::walked, s -> s.print(Integer.MIN_VALUE, 0));
        });
        Edge.edge(8, none, "told ahead of another what", () -> Edge.refuses(Edge.NO_SUCH, Kit::walked, s -> s.print(5, 3)));
        String what = "IllegalArgumentException: another what.";
        Edge.edge(8, what, "3", () -> Edge.refuses(Edge.ARGUMENT, Kit::walked, s -> s.print(4, 3)));
        Edge.edge(8, what, "-1", () -> Edge.refuses(Edge.ARGUMENT, Kit::walked, s -> s.print(0, -1)));
    }

    private static void keep() {
        String go = "KEEP is otherwise (eldest PRINTS go): PRINTS then.";
        Edge.edge(9, go, "just as many as there are: none goes", () -> {
            SnowKeeps s = Kit.walked();
            Edge.is(5, s.keep(5));
            Edge.is(0, s.print(0, 0));
        });
        Edge.edge(9, go, "one fewer: the eldest goes", () -> {
            SnowKeeps s = Kit.walked();
            Edge.is(4, s.keep(4));
            Edge.is(2, s.print(0, 0));
            Edge.is(4, s.count(4));
        });
        Edge.edge(9, go, "what went does not come back", () -> {
            SnowKeeps s = Kit.walked();
            Edge.is(1, s.keep(1));
            Edge.is(1, s.keep(60));
            Edge.is(60, s.count(4));
            Edge.is(2, s.step(0, 2));
        });
        Edge.edge(9, go, "without a plain", () -> {
            SnowKeeps s = new SnowKeeps();
            Edge.is(0, s.keep(7));
            Edge.is(7, s.count(4));
        });
        Edge.edge(9, go, "wolves remember all the same", () -> {
            SnowKeeps s = Kit.walked();
            s.keep(1);
            Edge.is(5, s.wolves());
        });
        String bounds = "IllegalArgumentException: it isn't 1 to 60.";
        Edge.edge(9, bounds, "1", () -> Edge.is(1, Kit.walked().keep(1)));
        Edge.edge(9, bounds, "60", () -> Edge.is(5, Kit.walked().keep(60)));
        Edge.edge(9, bounds, "0", () -> Edge.refuses(Edge.ARGUMENT, Kit::walked, s -> s.keep(0)));
        Edge.edge(9, bounds, "61", () -> Edge.refuses(Edge.ARGUMENT, Kit::walked, s -> s.keep(61)));
        Edge.edge(9, bounds, "-1 and far off", () -> {
            Edge.refuses(Edge.ARGUMENT, Kit::walked, s -> s.keep(-1));
            Edge.refuses(Edge.ARGUMENT, Kit::walked, s -> s.keep(Integer.MAX_VALUE));
            Edge.refuses(Edge.ARGUMENT, Kit::walked, s -> s.keep(Integer.MIN_VALUE));
        });
    }

    private static void keepAndStorms() {
        String more = "the eldest goes, if there are more than KEEP";
        Edge.edge(Edge.TERMS, more, "as many as KEEP: none goes", () -> {
            SnowKeeps s = Kit.toAndFro(Kit.of(Kit.PAIR + "keep 3;"), 3);
            Edge.is(3, s.count(5));
            Edge.is(0, s.print(0, 0));
        });
        Edge.edge(Edge.TERMS, more, "one more: the eldest goes", () -> {
            SnowKeeps s = Kit.toAndFro(Kit.of(Kit.PAIR + "keep 3;"), 4);
            Edge.is(3, s.count(5));
            Edge.is(1, s.print(0, 0));
        });
        String storm = "then there may be a storm: if STEPS of all since THE PLAIN was told are a multiple of its first number, "
            + "its eldest PRINTS go (as many as there are).";
        Edge.edge(Edge.TERMS, storm, "behind the print that goes for KEEP", () -> {
            SnowKeeps s = Kit.toAndFro(Kit.of(Kit.PAIR + "keep 2;storm 3 1;"), 3);
            Edge.is(1, s.count(5));
            Edge.is(0, s.print(0, 0));
        });
        Edge.edge(Edge.TERMS, storm, "steps of all walkers count", () -> {
            SnowKeeps s = Kit.of("places 2;path 0 1;walker 0;walker 0;storm 2 2;");
            Edge.is(1, s.step(0, 1));
            Edge.is(0, s.step(1, 1));
        });
        Edge.edge(Edge.TERMS, storm, "each multiple", () -> {
            SnowKeeps s = Kit.of(Kit.PAIR + "storm 3 3;");
            int[] want = {1, 2, 0, 1, 2, 0, 1, 2, 0};
            for (int i = 0; i < want.length; i++) {
                Edge.is(want[i], s.step(0, 1 - i % 2));
            }
        });
        Edge.edge(Edge.TERMS, storm, "steps that can't be do not count", () -> {
            SnowKeeps s = Kit.of(Kit.PAIR + "storm 2 2;");
            Kit.go(s, 0, 1);
            s.step(0, 1);
            s.step(1, 0);
            Edge.is(1, s.count(5));
        });
        Edge.edge(Edge.TERMS, storm, "neither a storm() nor a noon() counts anew", () -> {
            SnowKeeps s = Kit.toAndFro(Kit.of(Kit.PAIR + "storm 3 3;"), 1);
            s.storm(1);
            s.noon();
            Kit.go(s, 0, 0);
            Edge.is(0, s.step(0, 1));
        });
        Edge.edge(Edge.TERMS, storm, "another plain counts anew", () -> {
            SnowKeeps s = Kit.toAndFro(Kit.of(Kit.PAIR + "storm 3 3;"), 2);
            Kit.tell(s, Kit.PAIR + "storm 3 3;");
            Edge.is(1, s.step(0, 1));
            Edge.is(2, s.step(0, 0));
            Edge.is(0, s.step(0, 1));
        });
        Edge.edge(Edge.TERMS, storm, "more than there are: as many as there are", () -> {
            SnowKeeps s = Kit.toAndFro(Kit.of(Kit.PAIR + "storm 2 60;"), 2);
            Edge.is(0, s.count(5));
            Edge.is(1, s.step(0, 1));
        });
        String wolves = "WOLVES remember the last PRINTS of all STEPS, whatever the snow keeps.";
        Edge.edge(Edge.TERMS, wolves, "the snow keeps none, one, all", () -> {
            SnowKeeps s = Kit.toAndFro(Kit.of(Kit.PAIR + "keep 1;storm 4 1;wolves 3;"), 4);
            Edge.is(0, s.count(5));
            Edge.is(3, s.wolves());
            Edge.is(1, s.wolf(0, 0));
        });
        Edge.edge(Edge.TERMS, wolves, "99 of many steps by four, the snow keeps 60", StepEdges::longWalk);
        Edge.edge(Edge.TERMS, wolves, "fewer than the snow keeps", () -> {
            SnowKeeps s = Kit.toAndFro(Kit.of(Kit.PAIR + "wolves 2;"), 5);
            Edge.is(5, s.count(5));
            Edge.is(2, s.wolves());
            Edge.is(1, s.wolf(0, 0));
        });
    }

    /** Beats that never come together again so soon: all prints and what wolves remember, against a list of all steps. */
    private static void longWalk() {
        int[][] beats = {{1, 2, 1, 0, 3}, {4, 3, 4, 5, 0, 5, 0, 5}, {3, 0, 1}, {1, 0}};
        int[] at = {0, 5, 2, 0};
        StringBuilder text = new StringBuilder("places 6;path 0 1;path 1 2;path 2 3;path 3 4;path 4 5;path 5 0;path 0 3;keep 60;wolves 99;");
        for (int w = 0; w < 4; w++) {
            text.append("walker ").append(at[w]).append(" beat");
            for (int place : beats[w]) {
                text.append(' ').append(place);
            }
            text.append(';');
        }
        SnowKeeps s = Kit.of(text.toString());
        List<int[]> all = new ArrayList<>();
        for (int turn = 0; turn < 50; turn++) {
            for (int w = 0; w < 4; w++) {
                int to = beats[w][turn % beats[w].length];
                int from = at[w];
                boolean path = Math.abs(from - to) == 1 || from + to == 5 && from * to == 0 || from + to == 3 && from * to == 0;
                if (path) {
                    all.add(new int[] {from, to, w});
                    at[w] = to;
                }
            }
        }
        Edge.is(true, all.size() > 120);
        Edge.is(all.size(), s.rounds(50));
        for (int what = 0; what < 3; what++) {
            for (int k = 0; k < 99; k++) {
                Edge.is(all.get(all.size() - 99 + k)[what], s.wolf(k, what));
            }
            for (int k = 0; k < 60; k++) {
                Edge.is(all.get(all.size() - 60 + k)[what], s.print(k, what));
            }
        }
    }

    private static void step() {
        String not = "below 0: less why it can't be (nothing happens).";
        String least = "It can't be, the least of: 1 no such WALKER; 2 no such PLACE, no PATH there.";
        Edge.edge(Edge.TERMS, least, "no such walker, above and below", () -> {
            Edge.is(-1, Kit.walked().step(2, 0));
            Edge.is(-1, Kit.walked().step(-1, 0));
            Edge.is(-1, Kit.walked().step(Integer.MAX_VALUE, 0));
            Edge.is(-1, Kit.walked().step(Integer.MIN_VALUE, 0));
        });
        Edge.edge(Edge.TERMS, least, "no such walker, nor such a place", () -> Edge.is(-1, Kit.walked().step(2, 4)));
        Edge.edge(Edge.TERMS, least, "no such place, above and below", () -> {
            Edge.is(-2, Kit.walked().step(0, 4));
            Edge.is(-2, Kit.walked().step(0, -1));
            Edge.is(-2, Kit.walked().step(0, Integer.MAX_VALUE));
            Edge.is(-2, Kit.walked().step(0, Integer.MIN_VALUE));
        });
        Edge.edge(Edge.TERMS, least, "no path there", () -> Edge.is(-2, Kit.walked().step(0, 1)));
        Edge.edge(Edge.TERMS, least, "no path to where it is", () -> Edge.is(-2, Kit.walked().step(0, 3)));
        Edge.edge(10, not, "no such walker: nothing happens", () -> {
            SnowKeeps s = Kit.walked();
            String before = Kit.look(s);
            Edge.is(-1, s.step(2, 0));
            Edge.same(before, Kit.look(s));
        });
        Edge.edge(10, not, "no path: nothing happens, no storm either", () -> {
            SnowKeeps s = Kit.toAndFro(Kit.of(Kit.PAIR + "storm 2 1;"), 4);
            String before = Kit.look(s);
            Edge.is(-2, s.step(0, 0));
            Edge.is(-2, s.step(0, 2));
            Edge.same(before, Kit.look(s));
        });
        Edge.edge(10, "A STEP: PRINTS then", "behind KEEP and the storm", () -> {
            SnowKeeps s = Kit.of(Kit.PAIR + "keep 2;storm 3 1;");
            Edge.is(1, s.step(0, 1));
            Edge.is(2, s.step(0, 0));
            Edge.is(1, s.step(0, 1));
        });
        Edge.edge(10, "A STEP: PRINTS then", "60 and still 60", () -> {
            SnowKeeps s = Kit.toAndFro(Kit.of(Kit.PAIR + "keep 60;"), 59);
            Edge.is(60, s.step(0, 0));
            Edge.is(60, s.step(0, 1));
        });
    }

    private static void storm() {
        String bounds = "IllegalArgumentException: n is below 0 or above PRINTS.";
        Edge.edge(11, bounds, "0: none goes", () -> {
            SnowKeeps s = Kit.walked();
            Edge.is(5, s.storm(0));
            Edge.is(0, s.print(0, 0));
        });
        Edge.edge(11, bounds, "all of them", () -> Edge.is(0, Kit.walked().storm(5)));
        Edge.edge(11, bounds, "one above", () -> Edge.refuses(Edge.ARGUMENT, Kit::walked, s -> s.storm(6)));
        Edge.edge(11, bounds, "below 0", () -> Edge.refuses(Edge.ARGUMENT, Kit::walked, s -> s.storm(-1)));
        Edge.edge(11, bounds, "far off", () -> {
            Edge.refuses(Edge.ARGUMENT, Kit::walked, s -> s.storm(Integer.MAX_VALUE));
            Edge.refuses(Edge.ARGUMENT, Kit::walked, s -> s.storm(Integer.MIN_VALUE));
        });
        Edge.edge(11, bounds, "on fresh snow 0 goes, 1 does not", () -> {
            Edge.is(0, Kit.of(Kit.RING).storm(0));
            Edge.refuses(Edge.ARGUMENT, () -> Kit.of(Kit.RING), s -> s.storm(1));
        });
        Edge.edge(11, bounds, "60 of 60", () -> Edge.is(0, Kit.toAndFro(Kit.of(Kit.PAIR + "keep 60;"), 60).storm(60)));
        Edge.edge(11, "The n eldest PRINTS go: PRINTS then.", "the eldest, and they are no steps", () -> {
            SnowKeeps s = Kit.walked();
            Edge.is(1, s.storm(4));
            Edge.is(3, s.print(0, 0));
            Edge.is(5, s.count(6));
            Edge.is(5, s.wolves());
            Edge.is(5, s.count(4));
        });
    }

    private static void noon() {
        String all = "All PRINTS go: how many.";
        Edge.edge(12, all, "none", () -> Edge.is(0, Kit.of(Kit.RING).noon()));
        Edge.edge(12, all, "60", () -> {
            SnowKeeps s = Kit.toAndFro(Kit.of(Kit.PAIR + "keep 60;"), 70);
            Edge.is(60, s.noon());
            Edge.is(0, s.noon());
            Edge.is(0, s.count(5));
            Edge.is(70, s.count(6));
            Edge.is(20, s.wolves());
        });
    }

    private static void rounds() {
        String bounds = "So many TURNS (1 to 60): STEPS of these. IllegalArgumentException: how many.";
        Edge.edge(13, bounds, "1", () -> Edge.is(1, Kit.of(Kit.PAIR).rounds(1)));
        Edge.edge(13, bounds, "60", () -> {
            SnowKeeps s = Kit.of(Kit.PAIR + "walker 1 beat 0 1;walker 0 beat 1 0;walker 1 beat 0 1;");
            Edge.is(240, s.rounds(60));
            Edge.is(60, s.walker(3, 1));
        });
        Edge.edge(13, bounds, "0", () -> Edge.refuses(Edge.ARGUMENT, () -> Kit.of(Kit.PAIR), s -> s.rounds(0)));
        Edge.edge(13, bounds, "61", () -> Edge.refuses(Edge.ARGUMENT, () -> Kit.of(Kit.PAIR), s -> s.rounds(61)));
        Edge.edge(13, bounds, "-1 and far off", () -> {
            Edge.refuses(Edge.ARGUMENT, () -> Kit.of(Kit.PAIR), s -> s.rounds(-1));
            Edge.refuses(Edge.ARGUMENT, () -> Kit.of(Kit.PAIR), s -> s.rounds(Integer.MAX_VALUE));
            Edge.refuses(Edge.ARGUMENT, () -> Kit.of(Kit.PAIR), s -> s.rounds(Integer.MIN_VALUE));
        });
        Edge.edge(13, bounds, "no steps without walkers", () -> Edge.is(0, Kit.of("places 2;path 0 1;").rounds(60)));
        String turn = "a STEP to the next PLACE of it (the first at first, behind the last one the first again), if it can be; "
            + "the one behind that is next then, whether it could or not.";
        Edge.edge(Edge.TERMS, turn, "the first at first", () -> {
            SnowKeeps s = Kit.of("places 3;path 0 1;path 0 2;walker 0 beat 2 0 1 0;");
            s.rounds(1);
            Edge.is(2, s.walker(0, 0));
        });
        Edge.edge(Edge.TERMS, turn, "behind the last one the first again", () -> {
            SnowKeeps s = Kit.of("places 3;path 0 1;path 0 2;walker 0 beat 2 0 1 0;");
            s.rounds(5);
            Edge.is(2, s.walker(0, 0));
            Edge.is(1, s.beat(0, -1));
        });
        Edge.edge(Edge.TERMS, turn, "a beat of one place", () -> {
            SnowKeeps s = Kit.of("places 2;path 0 1;walker 0 beat 1;");
            Edge.is(1, s.rounds(60));
            Edge.is(0, s.beat(0, -1));
            Kit.go(s, 0, 0);
            Edge.is(1, s.rounds(60));
        });
        Edge.edge(Edge.TERMS, turn, "one that can't be is passed over", () -> {
            SnowKeeps s = Kit.of("places 3;path 0 1;walker 0 beat 2 1;");
            Edge.is(0, s.rounds(1));
            Edge.is(1, s.beat(0, -1));
            Edge.is(1, s.rounds(1));
            Edge.is(0, s.beat(0, -1));
        });
        Edge.edge(Edge.TERMS, turn, "the last one that can't be, then the first", () -> {
            SnowKeeps s = Kit.of("places 3;path 0 1;walker 0 beat 1 2;");
            Edge.is(1, s.rounds(2));
            Edge.is(0, s.beat(0, -1));
        });
        Edge.edge(Edge.TERMS, turn, "a step by hand leaves what is next", () -> {
            SnowKeeps s = Kit.of(Kit.PAIR);
            Kit.go(s, 0, 1);
            Edge.is(0, s.beat(0, -1));
        });
    }

    private static void beat() {
        String next = "The k-th PLACE of a WALKER's BEAT; k NONE: which is next (its number in the BEAT; 0 without one).";
        Edge.edge(14, next, "at first", () -> Edge.is(0, Kit.of(Kit.PAIR).beat(0, -1)));
        Edge.edge(14, next, "the last, then the first again", () -> {
            SnowKeeps s = Kit.of("places 2;path 0 1;walker 0 beat 1 0 1 0 1 0 1 0;");
            s.rounds(7);
            Edge.is(7, s.beat(0, -1));
            s.rounds(1);
            Edge.is(0, s.beat(0, -1));
        });
        Edge.edge(14, next, "0 without a beat, turns or not", () -> {
            SnowKeeps s = Kit.of("places 2;path 0 1;walker 0;walker 0 beat 1 0;");
            s.rounds(1);
            Edge.is(0, s.beat(0, -1));
            Edge.is(1, s.beat(1, -1));
        });
        Edge.edge(14, next, "the first and the last place", () -> {
            SnowKeeps s = Kit.of("places 9;walker 0 beat 1 2 3 4 5 6 7 8;");
            Edge.is(1, s.beat(0, 0));
            Edge.is(8, s.beat(0, 7));
        });
        String none = "NoSuchElementException: the WALKER";
        Edge.edge(14, none, "below and above", () -> {
            Edge.refuses(Edge.NO_SUCH, () -> Kit.of(Kit.PAIR), s -> s.beat(-1, 0));
            Edge.refuses(Edge.NO_SUCH, () -> Kit.of(Kit.PAIR), s -> s.beat(1, 0));
        });
        Edge.edge(14, none, "also for which is next", () -> Edge.refuses(Edge.NO_SUCH, () -> Kit.of(Kit.PAIR), s -> s.beat(1, -1)));
        Edge.edge(14, none, "told ahead of no such k", () -> Edge.refuses(Edge.NO_SUCH, () -> Kit.of(Kit.PAIR), s -> s.beat(1, 9)));
        String k = "IllegalArgumentException: no such k.";
        Edge.edge(14, k, "one above the last", () -> Edge.refuses(Edge.ARGUMENT, () -> Kit.of(Kit.PAIR), s -> s.beat(0, 2)));
        Edge.edge(14, k, "-2", () -> Edge.refuses(Edge.ARGUMENT, () -> Kit.of(Kit.PAIR), s -> s.beat(0, -2)));
        Edge.edge(14, k, "far off", () -> {
            Edge.refuses(Edge.ARGUMENT, () -> Kit.of(Kit.PAIR), s -> s.beat(0, Integer.MAX_VALUE));
            Edge.refuses(Edge.ARGUMENT, () -> Kit.of(Kit.PAIR), s -> s.beat(0, Integer.MIN_VALUE));
        });
        Edge.edge(14, k, "0 without a beat", () -> Edge.refuses(Edge.ARGUMENT, () -> Kit.of(Kit.RING), s -> s.beat(0, 0)));
        Edge.edge(14, k, "8 of eight", () ->
            Edge.refuses(Edge.ARGUMENT, () -> Kit.of("places 1;walker 0 beat 0 0 0 0 0 0 0 0;walker 0 beat 0;"), s -> s.beat(0, 8)));
    }

    private static void again() {
        String till = "TURNS on end, as if, till all is as it was behind some number of them (PRINTS in order and whose, where all are, "
            + "what is next, STEPS by a storm's first number), what 0: how many TURNS it takes to come again, 1: behind how many it was "
            + "so first; NONE: not within 120.";
        Edge.edge(15, till, "nothing moves: at once", () -> {
            Edge.is(1, Kit.of(Kit.RING).again(0));
            Edge.is(0, Kit.of(Kit.RING).again(1));
        });
        Edge.edge(15, till, "just within 120", () -> {
            SnowKeeps s = Kit.of(LONG_BEAT);
            Edge.is(120, s.again(0));
            Edge.is(0, s.again(1));
        });
        Edge.edge(15, till, "behind 121 it would be as behind one: none", () -> {
            SnowKeeps s = Kit.toAndFro(Kit.of(LONG_BEAT), 14);
            Edge.is(-1, s.again(0));
            Edge.is(-1, s.again(1));
        });
        Edge.edge(15, till, "as if: nothing changes", () -> {
            SnowKeeps s = Kit.of(LONG_BEAT);
            s.rounds(3);
            String before = Kit.look(s);
            s.again(0);
            s.again(1);
            Edge.same(before, Kit.look(s));
        });
        Edge.edge(15, till, "the snow fills first", () -> {
            SnowKeeps s = Kit.of(Kit.PAIR + "keep 60;");
            Edge.is(2, s.again(0));
            Edge.is(60, s.again(1));
        });
        Edge.edge(15, till, "whose the prints are", () -> {
            SnowKeeps s = Kit.of("places 2;path 0 1;walker 0 beat 0;walker 0 beat 1 0;keep 2;");
            Kit.go(s, 1, 1, 1, 0);
            Edge.is(2, s.again(0));
            Edge.is(0, s.again(1));
            SnowKeeps other = Kit.of("places 2;path 0 1;walker 0;walker 0 beat 1 0;keep 2;");
            Kit.go(other, 0, 1, 0, 0);
            Edge.is(2, other.again(1));
        });
        Edge.edge(15, till, "whose the last print is, and along which way", () -> {
            for (int w = 1; w < 4; w++) {
                SnowKeeps s = Kit.go(Kit.of(Kit.PAIR + "walker 0;walker 0;walker 0;keep 1;"), w, 1);
                Edge.is(2, s.again(0));
                Edge.is(1, s.again(1));
            }
        });
        Edge.edge(15, till, "fuller snow asked ahead leaves nothing", () -> {
            SnowKeeps s = Kit.of(Kit.PAIR + "keep 60;");
            Edge.is(60, s.again(1));
            s.keep(1);
            Edge.is(2, s.again(0));
            Edge.is(1, s.again(1));
        });
        Edge.edge(15, till, "what is next, though all stand still", () -> {
            Edge.is(3, Kit.of("places 2;walker 0 beat 0 1 1;").again(0));
            Edge.is(0, Kit.of("places 2;walker 0 beat 0 1 1;").again(1));
        });
        Edge.edge(15, till, "where all are", () -> {
            SnowKeeps s = Kit.of("places 3;path 0 1;path 1 2;walker 0 beat 1;keep 1;storm 1 1;");
            Edge.is(1, s.again(0));
            Edge.is(1, s.again(1));
        });
        Edge.edge(15, till, "how many prints there are, though the others are alike", () -> {
            SnowKeeps s = Kit.of("places 2;path 0 1;walker 1 beat 0 1;keep 1;");
            Edge.is(2, s.again(0));
            Edge.is(1, s.again(1));
        });
        Edge.edge(15, till, "where each of four is and what is its next", () -> {
            for (int w = 0; w < 4; w++) {
                String before = "walker 0;".repeat(w);
                String behind = "walker 0;".repeat(3 - w);
                SnowKeeps idle = Kit.of("places 2;path 0 1;" + before + "walker 0 beat 0 0 0;" + behind);
                int other = w == 0 ? 1 : 0;
                Kit.go(idle, other, 1);
                Edge.is(3, idle.again(0));
                Edge.is(0, idle.again(1));
                SnowKeeps goes = Kit.of("places 2;path 0 1;" + before + "walker 0 beat 1;" + behind + "storm 1 1;");
                Edge.is(1, goes.again(0));
                Edge.is(1, goes.again(1));
            }
        });
        Edge.edge(15, till, "steps by the storm's first number", () -> {
            SnowKeeps s = Kit.of(Kit.PAIR + "keep 1;storm 3 0;");
            Edge.is(6, s.again(0));
            Edge.is(1, s.again(1));
        });
        Edge.edge(15, till, "steps without a storm don't matter", () -> Edge.is(2, Kit.of(Kit.PAIR + "keep 1;").again(0)));
        String what = "IllegalArgumentException: another what.";
        Edge.edge(15, what, "2", () -> Edge.refuses(Edge.ARGUMENT, () -> Kit.of(Kit.PAIR), s -> s.again(2)));
        Edge.edge(15, what, "-1", () -> Edge.refuses(Edge.ARGUMENT, () -> Kit.of(Kit.PAIR), s -> s.again(-1)));
        Edge.edge(15, what, "also where the answer is NONE", () ->
            Edge.refuses(Edge.ARGUMENT, () -> Kit.toAndFro(Kit.of(LONG_BEAT), 14), s -> s.again(2)));
    }

    private static SnowKeeps walkedTold(int sort, long... numbers) {
        SnowKeeps s = Kit.walked();
        Kit.fill(s, 0, sort, numbers);
        return s;
    }

    private static void toldNumbers() {
        String told = "TOLD STEPS in a TRAY, one behind the other: numbers 100 times the WALKER, and the PLACE.";
        Edge.edge(Edge.TERMS, told, "the last place of the last walker", () -> {
            SnowKeeps s = Kit.of("places 10;path 0 9;walker 0;walker 0;walker 0;walker 0;");
            Kit.fill(s, 0, 1, 309);
            Edge.is(1, s.perform(0));
            Edge.is(9, s.walker(3, 0));
        });
        Edge.edge(Edge.TERMS, told, "99 is a place of walker 0, 100 is place 0 of walker 1", () -> {
            Edge.is(2, walkedTold(3, 99).judge(0, 1));
            SnowKeeps s = Kit.of("places 2;path 0 1;walker 1;walker 1;");
            Kit.fill(s, 0, 3, 100);
            Edge.is(1, s.perform(0));
            Edge.is(0, s.walker(1, 0));
            Edge.is(1, s.walker(0, 0));
        });
        Edge.edge(Edge.TERMS, told, "100 is judged from where walker 1 is", () -> {
            SnowKeeps s = Kit.of("places 3;path 0 1;path 1 2;walker 2;walker 1;walker 2;walker 1;");
            Kit.fill(s, 0, 3, 100, 300);
            Edge.is(-1, s.judge(0, 0));
            Edge.is(0, s.judge(0, 1));
            Kit.fill(s, 0, 3, 200);
            Edge.is(2, s.judge(0, 1));
        });
        Edge.edge(Edge.TERMS, told, "199 is walker 1, 200 is no walker of two", () -> {
            Edge.is(2, walkedTold(3, 199).judge(0, 1));
            Edge.is(1, walkedTold(3, 200).judge(0, 1));
        });
        Edge.edge(Edge.TERMS, told, "each behind the one ahead of it", () -> {
            SnowKeeps s = walkedTold(3, 2, 1, 2, 3, 101);
            Edge.is(5, s.perform(0));
            Edge.is(3, s.walker(0, 0));
            Edge.is(1, s.walker(1, 0));
        });
    }

    private static void judge() {
        String first = "TOLD STEPS, judged as if made, what 0: the first place that can't be (NONE), 1: why (0; 1 also for what is below 0)";
        Edge.edge(16, first, "nothing told", () -> {
            SnowKeeps s = walkedTold(0);
            Edge.is(-1, s.judge(0, 0));
            Edge.is(0, s.judge(0, 1));
            Edge.is(5, s.judge(0, 2));
            Edge.is(4, s.judge(0, 3));
        });
        Edge.edge(16, first, "all can be", () -> {
            SnowKeeps s = walkedTold(0, 2, 1);
            Edge.is(-1, s.judge(0, 0));
            Edge.is(0, s.judge(0, 1));
        });
        Edge.edge(16, first, "the first can't be", () -> Edge.is(0, walkedTold(0, 1).judge(0, 0)));
        Edge.edge(16, first, "the last of 30 can't be", () -> {
            SnowKeeps s = Kit.of(Kit.PAIR);
            long[] numbers = new long[30];
            for (int i = 0; i < 29; i++) {
                numbers[i] = 1 - i % 2;
            }
            numbers[29] = 7;
            Kit.fill(s, 0, 0, numbers);
            Edge.is(29, s.judge(0, 0));
            Edge.is(2, s.judge(0, 1));
            Edge.is(20, s.judge(0, 2));
        });
        Edge.edge(16, first, "below 0", () -> {
            Edge.is(1, walkedTold(3, -1).judge(0, 1));
            Edge.is(1, walkedTold(3, -100).judge(0, 1));
            Edge.is(1, walkedTold(3, Long.MIN_VALUE).judge(0, 1));
            Edge.is(0, walkedTold(3, -1).judge(0, 0));
        });
        Edge.edge(16, first, "far above: no such walker", () -> {
            Edge.is(1, walkedTold(3, Long.MAX_VALUE).judge(0, 1));
            Edge.is(1, walkedTold(3, (1L << 32) + 2).judge(0, 1));
            Edge.is(1, walkedTold(3, 100L * (1L << 32) + 2).judge(0, 1));
            Edge.is(0, walkedTold(3, (1L << 32) + 2).judge(0, 0));
        });
        String then = "2: PRINTS then, 3: unlike WAYS with PRINTS then.";
        Edge.edge(16, then, "till one can't be", () -> {
            SnowKeeps s = walkedTold(3, 2, -1, 1);
            Edge.is(5, s.judge(0, 2));
            Edge.is(4, s.judge(0, 3));
        });
        Edge.edge(16, then, "with storms", () -> {
            SnowKeeps s = Kit.walkedOn(Kit.RING + "storm 6 60;");
            Kit.fill(s, 0, 3, 2);
            Edge.is(0, s.judge(0, 2));
            Edge.is(0, s.judge(0, 3));
        });
        Edge.edge(16, then, "as if: nothing changes", () -> {
            SnowKeeps s = walkedTold(3, 2, 101, 3);
            String before = Kit.look(s);
            for (int what = 0; what < 4; what++) {
                s.judge(0, what);
            }
            Edge.same(before, Kit.look(s));
        });
        String none = "NoSuchElementException: no such TRAY (as below); IllegalStateException: it is MISSING (as below); "
            + "IllegalArgumentException: another what.";
        Edge.edge(16, none, "no such tray", () -> {
            Edge.refuses(Edge.NO_SUCH, Kit::walked, s -> s.judge(4, 0));
            Edge.refuses(Edge.NO_SUCH, Kit::walked, s -> s.judge(-1, 0));
        });
        Edge.edge(16, none, "it is missing", () -> Edge.refuses(Edge.STATE, () -> walkedTold(0, 2), s -> s.judge(3, 0)));
        Edge.edge(16, none, "another what", () -> {
            Edge.refuses(Edge.ARGUMENT, () -> walkedTold(0, 2), s -> s.judge(0, 4));
            Edge.refuses(Edge.ARGUMENT, () -> walkedTold(0, 2), s -> s.judge(0, -1));
        });
        Edge.edge(16, none, "in this order", () -> {
            Edge.refuses(Edge.NO_SUCH, Kit::walked, s -> s.judge(4, 4));
            Edge.refuses(Edge.STATE, Kit::walked, s -> s.judge(3, 4));
        });
    }

    private static void performAndBehind() {
        String made = "They are made, till one can't be: how many were.";
        Edge.edge(17, made, "none is told", () -> Edge.is(0, walkedTold(0).perform(0)));
        Edge.edge(17, made, "the first can't be: nothing changes", () -> {
            SnowKeeps s = walkedTold(3, 0x7fffffffffffffffL, 2);
            String before = Kit.look(s);
            Edge.is(0, s.perform(0));
            Edge.same(before, Kit.look(s));
        });
        Edge.edge(17, made, "none behind one that can't be", () -> {
            SnowKeeps s = walkedTold(3, 2, -5, 1);
            Edge.is(1, s.perform(0));
            Edge.is(2, s.walker(0, 0));
            Edge.is(6, s.count(6));
        });
        Edge.edge(17, made, "all thirty", () -> {
            SnowKeeps s = Kit.of(Kit.PAIR);
            long[] numbers = new long[30];
            for (int i = 0; i < 30; i++) {
                numbers[i] = 1 - i % 2;
            }
            Kit.fill(s, 3, 3, numbers);
            Edge.is(30, s.perform(3));
            Edge.is(30, s.count(6));
        });
        String throwsOf = "perform(int tray) throws NoSuchElementException, IllegalStateException";
        Edge.edge(17, throwsOf, "no such tray", () -> {
            Edge.refuses(Edge.NO_SUCH, Kit::walked, s -> s.perform(4));
            Edge.refuses(Edge.NO_SUCH, Kit::walked, s -> s.perform(-1));
        });
        Edge.edge(17, throwsOf, "it is missing", () -> Edge.refuses(Edge.STATE, Kit::walked, s -> s.perform(0)));
        String as = "PRINTS from a PLACE to another one behind TOLD STEPS, as if made (till one can't be).";
        Edge.edge(19, as, "nothing told", () -> Edge.is(2, walkedTold(0).behind(0, 2, 3)));
        Edge.edge(19, as, "till one can't be", () -> {
            SnowKeeps s = walkedTold(3, 2, 0, 1);
            Edge.is(1, s.behind(0, 3, 2));
            Edge.is(0, s.behind(0, 2, 1));
        });
        Edge.edge(19, as, "no path between both, the same place", () -> {
            SnowKeeps s = walkedTold(3, 2);
            Edge.is(0, s.behind(0, 0, 2));
            Edge.is(0, s.behind(0, 2, 2));
        });
        Edge.edge(19, as, "with storms", () -> {
            SnowKeeps s = Kit.walkedOn(Kit.RING + "storm 6 60;");
            Kit.fill(s, 0, 3, 2);
            Edge.is(0, s.behind(0, 2, 3));
        });
        Edge.edge(19, as, "as if: nothing changes", () -> {
            SnowKeeps s = walkedTold(3, 2);
            String before = Kit.look(s);
            s.behind(0, 3, 2);
            Edge.same(before, Kit.look(s));
        });
        String none = "NoSuchElementException: the TRAY, a PLACE; IllegalStateException: it is MISSING.";
        Edge.edge(19, none, "no such tray", () -> {
            Edge.refuses(Edge.NO_SUCH, Kit::walked, s -> s.behind(4, 0, 1));
            Edge.refuses(Edge.NO_SUCH, Kit::walked, s -> s.behind(-1, 0, 1));
        });
        Edge.edge(19, none, "no such place", () -> {
            Edge.refuses(Edge.NO_SUCH, () -> walkedTold(0), s -> s.behind(0, 4, 1));
            Edge.refuses(Edge.NO_SUCH, () -> walkedTold(0), s -> s.behind(0, -1, 1));
            Edge.refuses(Edge.NO_SUCH, () -> walkedTold(0), s -> s.behind(0, 1, 4));
            Edge.refuses(Edge.NO_SUCH, () -> walkedTold(0), s -> s.behind(0, 1, -1));
        });
        Edge.edge(19, none, "it is missing", () -> Edge.refuses(Edge.STATE, () -> walkedTold(0), s -> s.behind(1, 0, 1)));
        Edge.edge(19, none, "no such place ahead of missing", () -> {
            Edge.refuses(Edge.NO_SUCH, Kit::walked, s -> s.behind(1, 4, 1));
            Edge.refuses(Edge.NO_SUCH, Kit::walked, s -> s.behind(1, 0, 4));
        });
    }

    private static void day() {
        String bounds = "IllegalArgumentException: how many times; IllegalStateException: no WALKERS.";
        String text = "places 2;path 0 1;walker 0;";
        Edge.edge(18, bounds, "1", () -> Edge.is(1, Kit.of(text).day(3, 1)));
        Edge.edge(18, bounds, "60", () -> Edge.is(60, Kit.of(text).day(3, 60)));
        Edge.edge(18, bounds, "0", () -> Edge.refuses(Edge.ARGUMENT, () -> Kit.of(text), s -> s.day(3, 0)));
        Edge.edge(18, bounds, "61", () -> Edge.refuses(Edge.ARGUMENT, () -> Kit.of(text), s -> s.day(3, 61)));
        Edge.edge(18, bounds, "-1 and far off", () -> {
            Edge.refuses(Edge.ARGUMENT, () -> Kit.of(text), s -> s.day(3, -1));
            Edge.refuses(Edge.ARGUMENT, () -> Kit.of(text), s -> s.day(3, Integer.MAX_VALUE));
            Edge.refuses(Edge.ARGUMENT, () -> Kit.of(text), s -> s.day(3, Integer.MIN_VALUE));
        });
        Edge.edge(18, bounds, "no walkers", () -> Edge.refuses(Edge.STATE, () -> Kit.of("places 2;path 0 1;"), s -> s.day(3, 1)));
        Edge.edge(18, bounds, "no plain", () -> Edge.refuses(Edge.STATE, SnowKeeps::new, s -> s.day(3, 60)));
        Edge.edge(18, bounds, "how many times is told first", () -> {
            Edge.refuses(Edge.ARGUMENT, SnowKeeps::new, s -> s.day(3, 0));
            Edge.refuses(Edge.ARGUMENT, SnowKeeps::new, s -> s.day(3, 61));
        });
        String times = "so many times (1 to 60): a WALKER is DRAW modulo WALKERS; from where it is it goes to the DRAW modulo how "
            + "many-th of PLACES with a PATH there (in order; without any nothing happens, no such DRAW).";
        Edge.edge(Edge.TERMS, times, "all times nothing happens", () -> {
            SnowKeeps s = Kit.of("places 2;walker 0;walker 1;");
            String before = Kit.look(s);
            Edge.is(0, s.day(-9, 60));
            Edge.same(before, Kit.look(s));
        });
        Edge.edge(Edge.TERMS, times, "where nothing happens there is no draw for it", () ->
            followDay("places 5;path 0 3;path 0 1;path 0 2;walker 4;walker 0;walker 1;", new int[][] {{3, 1, 2}, {0}, {0}, {0}, {}}));
        Edge.edge(Edge.TERMS, times, "the last of three in order", () ->
            followDay("places 4;path 3 0;path 2 0;path 0 1;walker 0;walker 0;walker 0;walker 0;", new int[][] {{1, 2, 3}, {0}, {0}, {0}}));
    }

    /** Each of some days against its draws, told where one may go from each place. */
    private static void followDay(String text, int[][] told) {
        int[][] near = new int[told.length][];
        for (int p = 0; p < told.length; p++) {
            near[p] = told[p].clone();
            Arrays.sort(near[p]);
        }
        int[] seeds = {0, 1, -1, 12345, Integer.MAX_VALUE, Integer.MIN_VALUE, 987654321, -77777777};
        for (int seed : seeds) {
            SnowKeeps s = Kit.of(text);
            int walkers = s.count(3);
            int[] where = new int[walkers];
            for (int w = 0; w < walkers; w++) {
                where[w] = s.walker(w, 0);
            }
            long x = seed & 0xffffffffL;
            int steps = 0;
            for (int i = 0; i < 30; i++) {
                x = (1103515245L * x + 12345L) & 0xffffffffL;
                int w = (int) ((x >> 16) % walkers);
                int[] to = near[where[w]];
                if (to.length > 0) {
                    x = (1103515245L * x + 12345L) & 0xffffffffL;
                    where[w] = to[(int) ((x >> 16) % to.length)];
                    steps++;
                }
            }
            Edge.is(steps, s.day(seed, 30));
            for (int w = 0; w < walkers; w++) {
                Edge.is(where[w], s.walker(w, 0));
            }
        }
    }

    private static void draws() {
        String draw = "A DAY by a SEED (x, an int; a DRAW: x becomes 1103515245 x + 12345, it is x >>> 16)";
        // 0 becomes 12345, which draws 0; 12345 becomes -740551042, which draws 54236, that is 2 modulo 3
        Edge.edge(Edge.TERMS, draw, "a draw of an x below 0 is not below 0", () -> {
            SnowKeeps s = Kit.of("places 4;path 0 1;path 0 2;path 0 3;walker 0;");
            Edge.is(1, s.day(0, 1));
            Edge.is(3, s.walker(0, 0));
        });
        Edge.edge(Edge.TERMS, draw, "x wraps around, below 0 as well", () ->
            followDay("places 4;path 0 1;path 1 2;path 2 3;path 3 0;path 0 2;walker 0;walker 2;walker 3;",
                new int[][] {{1, 2, 3}, {0, 2}, {0, 1, 3}, {0, 2}}));
    }

    private static void count() {
        String all = "0 LINES, 1 PLACES, 2 PATHS, 3 WALKERS, 4 KEEP, 5 PRINTS, 6 STEPS of all since THE PLAIN was told, 7 bytes on the tape, "
            + "8 a storm's first number (0: none), 9 its second, 10 how many PRINTS WOLVES may remember; NONE for others.";
        Edge.edge(58, all, "none of a storm", () -> {
            Edge.is(0, Kit.of(Kit.RING).count(8));
            Edge.is(0, Kit.of(Kit.RING).count(9));
        });
        Edge.edge(58, all, "each at its most", () -> {
            SnowKeeps s = Kit.of(Kit.sixteenPaths() + "walker 0 beat 1 0;walker 0;walker 0;walker 0;keep 60;storm 99 60;wolves 99;");
            s.rounds(60);
            Kit.feed(s, " ".repeat(600));
            int[] want = {24, 7, 16, 4, 60, 60, 60, 600, 99, 60, 99};
            for (int what = 0; what < want.length; what++) {
                Edge.is(want[what], s.count(what));
            }
        });
        Edge.edge(58, all, "KEEP as it is otherwise", () -> {
            SnowKeeps s = Kit.of(Kit.RING);
            s.keep(9);
            Edge.is(9, s.count(4));
        });
        Edge.edge(58, all, "for others", () -> {
            SnowKeeps s = Kit.walked();
            Edge.is(-1, s.count(11));
            Edge.is(-1, s.count(-1));
            Edge.is(-1, s.count(Integer.MAX_VALUE));
            Edge.is(-1, s.count(Integer.MIN_VALUE));
        });
    }
}
