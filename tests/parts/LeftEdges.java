/** Boundary cases of what is left: promises 40 to 45, and what "Terms" says of them. */
final class LeftEdges {
    private LeftEdges() { }

    /** A bow of two loops at 0, walked once: 0>1 1>2 2>0 0>3 3>4 4>0. */
    private static final String BOW = "places 5;path 0 1;path 1 2;path 2 0;path 0 3;path 3 4;path 4 0;walker 0 beat 1 2 0 3 4 0;keep 30;";

    private static SnowKeeps bow() {
        SnowKeeps s = Kit.of(BOW);
        s.rounds(6);
        return s;
    }

    private static SnowKeeps bare() {
        return Kit.of(Kit.RING);
    }

    private static SnowKeeps pair(int prints) {
        return Kit.toAndFro(Kit.of(Kit.PAIR + "keep 60;"), prints);
    }

    /** Five loops at the middle of a star, walked one after the other. */
    private static SnowKeeps star(int loops) {
        SnowKeeps s = Kit.of("places 10;path 0 1;path 0 2;path 0 3;path 0 4;path 0 5;path 0 6;path 0 7;path 0 8;path 0 9;walker 0;keep 60;");
        for (int i = 1; i <= loops; i++) {
            Kit.go(s, 0, i, 0, 0);
        }
        return s;
    }

    static void run() {
        rows();
        rowsBounds();
        row();
        rowBounds();
        starts();
        sure();
        two();
        clear();
        clearBounds();
    }

    private static void rows() {
        String just = "ROWS from a PLACE: rows of PLACES of one who begins there and leaves just the PRINTS that are kept, each as often, whoever's "
            + "they are (at most 14 PRINTS: else SPENT, -1000); in order by PLACES.";
        Edge.edge(Edge.TERMS, just, "no prints: the row of its place alone", () -> {
            Edge.is(1, bare().rows(0));
            Edge.is(1, bare().rows(3));
        });
        Edge.edge(Edge.TERMS, just, "one print: from where it goes, not from where it comes", () -> {
            Edge.is(1, pair(1).rows(0));
            Edge.is(0, pair(1).rows(1));
        });
        Edge.edge(Edge.TERMS, just, "14 prints of one path", () -> {
            Edge.is(1, pair(14).rows(0));
            Edge.is(1, pair(14).rows(1));
        });
        Edge.edge(Edge.TERMS, just, "15 prints", () -> {
            Edge.is(-1000, pair(15).rows(0));
            Edge.is(-1000, pair(60).rows(1));
        });
        Edge.edge(Edge.TERMS, just, "14 prints of 14 unlike ways", () -> Edge.is(5040, star(7).rows(0)));
        Edge.edge(Edge.TERMS, just, "15 prints of unlike ways", () -> Edge.is(-1000, Kit.go(star(7), 0, 8).rows(0)));
        Edge.edge(Edge.TERMS, just, "14 again as soon as one went", () -> {
            SnowKeeps s = pair(15);
            s.storm(1);
            Edge.is(14, s.count(5));
            Edge.is(1, s.rows(1));
        });
        Edge.edge(Edge.TERMS, just, "each as often: three of one way, one back", () -> {
            SnowKeeps s = Kit.go(Kit.of("places 2;path 0 1;walker 0;walker 0;walker 0;"), 0, 1, 1, 1, 2, 1, 0, 0);
            Edge.is(0, s.rows(0));
            Edge.is(0, s.rows(1));
        });
        Edge.edge(Edge.TERMS, just, "whoever's they are", () -> {
            SnowKeeps s = Kit.go(Kit.of("places 3;path 0 1;path 1 2;walker 0;walker 1;"), 1, 2, 0, 1);
            Edge.is(1, s.rows(0));
        });
        Edge.edge(Edge.TERMS, just, "prints that hang apart", () -> {
            SnowKeeps s = Kit.go(Kit.of("places 4;path 0 1;path 2 3;walker 0;walker 2;"), 0, 1, 0, 0, 1, 3, 1, 2);
            Edge.is(0, s.rows(0));
            Edge.is(0, s.rows(2));
        });
    }

    private static void rowsBounds() {
        String many = "How many ROWS from a PLACE; SPENT.";
        Edge.edge(40, many, "none from elsewhere", () -> Edge.is(0, Kit.walked().rows(0)));
        Edge.edge(40, many, "two by either loop first", () -> Edge.is(2, bow().rows(0)));
        Edge.edge(40, many, "SPENT", () -> Edge.is(SnowKeeps.SPENT, pair(15).rows(0)));
        String throwsOf = "rows(int p) throws NoSuchElementException";
        Edge.edge(40, throwsOf, "no such place", () -> {
            Edge.refuses(Edge.NO_SUCH, Kit::walked, s -> s.rows(4));
            Edge.refuses(Edge.NO_SUCH, Kit::walked, s -> s.rows(-1));
        });
        Edge.edge(40, throwsOf, "no such place, though it would be SPENT", () -> Edge.refuses(Edge.NO_SUCH, () -> pair(15), s -> s.rows(2)));
    }

    private static void row() {
        String of = "Of the k-th ROW from a PLACE the i-th PLACE (0: where it begins); NONE: not so many (rows, places), SPENT.";
        Edge.edge(41, of, "where it begins, without prints", () -> {
            Edge.is(2, bare().row(2, 0, 0));
            Edge.is(-1, bare().row(2, 0, 1));
            Edge.is(-1, bare().row(2, 1, 0));
        });
        Edge.edge(41, of, "the last place of the last row", () -> {
            SnowKeeps s = bow();
            int[] second = {0, 3, 4, 0, 1, 2, 0};
            for (int i = 0; i < second.length; i++) {
                Edge.is(second[i], s.row(0, 1, i));
            }
            Edge.is(-1, s.row(0, 1, 7));
        });
        Edge.edge(41, of, "in order by places: the first row", () -> {
            SnowKeeps s = bow();
            int[] first = {0, 1, 2, 0, 3, 4, 0};
            for (int i = 0; i < first.length; i++) {
                Edge.is(first[i], s.row(0, 0, i));
            }
        });
        Edge.edge(41, of, "not so many rows", () -> {
            Edge.is(-1, bow().row(0, 2, 0));
            Edge.is(-1, Kit.walked().row(0, 0, 0));
            Edge.is(-1, bow().row(0, Long.MAX_VALUE, 0));
            Edge.is(-1, bow().row(0, 1L << 32, 0));
        });
        Edge.edge(41, of, "not so many places", () -> {
            Edge.is(-1, bow().row(0, 0, 7));
            Edge.is(-1, bow().row(0, 0, Integer.MAX_VALUE));
        });
        Edge.edge(41, of, "below 0", () -> {
            Edge.is(-1, bow().row(0, -1, 0));
            Edge.is(-1, bow().row(0, Long.MIN_VALUE, 0));
            Edge.is(-1, bow().row(0, 0, -1));
            Edge.is(-1, bow().row(0, 0, Integer.MIN_VALUE));
        });
        Edge.edge(41, of, "14 prints: the last place is number 14", () -> {
            Edge.is(0, pair(14).row(0, 0, 14));
            Edge.is(1, pair(14).row(0, 0, 13));
            Edge.is(-1, pair(14).row(0, 0, 15));
        });
        Edge.edge(41, of, "SPENT", () -> Edge.is(-1, pair(15).row(0, 0, 0)));
        Edge.edge(41, of, "the last of 5040 rows", () -> {
            SnowKeeps s = star(7);
            for (int i = 0; i <= 14; i++) {
                Edge.is(i % 2 == 0 ? 0 : 7 - i / 2, s.row(0, 5039, i));
            }
            Edge.is(-1, s.row(0, 5040, 0));
        });
    }

    private static void rowBounds() {
        String throwsOf = "row(int p, long k, int i) throws NoSuchElementException";
        Edge.edge(41, throwsOf, "no such place", () -> {
            Edge.refuses(Edge.NO_SUCH, Kit::walked, s -> s.row(4, 0, 0));
            Edge.refuses(Edge.NO_SUCH, Kit::walked, s -> s.row(-1, 0, 0));
        });
        Edge.edge(41, throwsOf, "no such place, though it would be NONE", () -> {
            Edge.refuses(Edge.NO_SUCH, () -> pair(15), s -> s.row(2, 0, 0));
            Edge.refuses(Edge.NO_SUCH, Kit::walked, s -> s.row(4, -1, -1));
        });
    }

    private static void starts() {
        String bits = "PLACES from which there is a ROW, as bits; SPENT.";
        Edge.edge(42, bits, "anywhere without prints", () -> {
            Edge.is(15, bare().starts());
            Edge.is(1023, Kit.of("places 10;").starts());
        });
        Edge.edge(42, bits, "without a plain", () -> Edge.is(0, new SnowKeeps().starts()));
        Edge.edge(42, bits, "nowhere", () -> {
            SnowKeeps s = Kit.go(Kit.of("places 4;path 0 1;path 2 3;walker 0;walker 2;"), 0, 1, 1, 3);
            Edge.is(0, s.starts());
        });
        Edge.edge(42, bits, "place 9", () -> Edge.is(1 << 9, Kit.go(Kit.of("places 10;path 9 0;walker 9;"), 0, 0).starts()));
        Edge.edge(42, bits, "14 and 15 prints", () -> {
            Edge.is(3, pair(14).starts());
            Edge.is(-1000, pair(15).starts());
        });
    }

    private static void sure() {
        String one = "WAYS that all ROWS from a PLACE take first, or last, if it is one alone: its number; NONE: none, unlike ones, SPENT.";
        Edge.edge(43, one, "no rows", () -> {
            Edge.is(-1, Kit.walked().sure(0, true));
            Edge.is(-1, Kit.walked().sure(0, false));
        });
        Edge.edge(43, one, "a row without ways", () -> {
            Edge.is(-1, bare().sure(0, true));
            Edge.is(-1, bare().sure(0, false));
        });
        Edge.edge(43, one, "unlike ones", () -> {
            Edge.is(-1, bow().sure(0, true));
            Edge.is(-1, bow().sure(0, false));
        });
        Edge.edge(43, one, "a way that leads nowhere is none of them", () -> {
            // 0>1 is a dead end: first comes 0>2, last 0>1, however the paths are numbered
            SnowKeeps s = Kit.go(Kit.of("places 3;path 0 1;path 0 2;walker 0;"), 0, 2, 0, 0, 0, 1);
            Edge.is(2, s.sure(0, true));
            Edge.is(0, s.sure(0, false));
            SnowKeeps turned = Kit.go(Kit.of("places 3;path 2 0;path 1 0;walker 0;"), 0, 2, 0, 0, 0, 1);
            Edge.is(1, turned.sure(0, true));
            Edge.is(3, turned.sure(0, false));
        });
        Edge.edge(43, one, "14 unlike ways", () -> {
            Edge.is(-1, star(7).sure(0, true));
            Edge.is(-1, star(7).sure(0, false));
            Edge.is(1, star(7).sure(1, true));
            Edge.is(0, star(7).sure(1, false));
        });
        Edge.edge(43, one, "more prints asked ahead leave nothing", () -> {
            SnowKeeps s = star(7);
            s.sure(0, true);
            s.keep(2);
            Edge.is(12, s.sure(0, true));
            Edge.is(13, s.sure(0, false));
            Edge.is(1, s.rows(0));
            Edge.is(7, s.row(0, 0, 1));
            Edge.is(-1, s.row(0, 0, 3));
            Edge.is(129, s.starts());
            Edge.is(2, s.two(0, 0));
            s.noon();
            Edge.is(-1, s.sure(0, true));
            Edge.is(-1, s.sure(0, false));
        });
        Edge.edge(43, one, "SPENT behind 14 asked ahead", () -> {
            SnowKeeps s = pair(14);
            Edge.is(0, s.sure(0, true));
            Kit.go(s, 0, 1);
            Edge.is(-1, s.sure(0, true));
            Edge.is(-1, s.sure(0, false));
            Edge.is(-1, s.row(0, 0, 0));
        });
        Edge.edge(43, one, "one alone, way 0 too", () -> {
            Edge.is(2, bow().sure(1, true));
            Edge.is(0, bow().sure(1, false));
            Edge.is(0, pair(1).sure(0, true));
            Edge.is(0, pair(1).sure(0, false));
        });
        Edge.edge(43, one, "one alone of several rows", () -> {
            // 5>0, then two loops at 0 in either order, then 0>6
            SnowKeeps s = Kit.of("places 7;path 5 0;path 0 1;path 0 2;path 0 6;walker 5;");
            Kit.go(s, 0, 0, 0, 1, 0, 0, 0, 2, 0, 0, 0, 6);
            Edge.is(2, s.rows(5));
            Edge.is(0, s.sure(5, true));
            Edge.is(6, s.sure(5, false));
        });
        Edge.edge(43, one, "14 and 15 prints", () -> {
            Edge.is(0, pair(14).sure(0, true));
            Edge.is(1, pair(14).sure(0, false));
            Edge.is(-1, pair(15).sure(0, true));
            Edge.is(-1, pair(15).sure(0, false));
        });
        String throwsOf = "sure(int p, boolean first) throws NoSuchElementException";
        Edge.edge(43, throwsOf, "no such place", () -> {
            Edge.refuses(Edge.NO_SUCH, Kit::walked, s -> s.sure(4, true));
            Edge.refuses(Edge.NO_SUCH, Kit::walked, s -> s.sure(-1, false));
        });
        Edge.edge(43, throwsOf, "no such place, though it would be NONE", () -> Edge.refuses(Edge.NO_SUCH, () -> pair(15), s -> s.sure(2, true)));
    }

    private static void two() {
        String pairs = "ROWS OF TWO, from two PLACES: pairs of such rows that leave all together (each PRINT is of the one or the other; PRINTS of one "
            + "WAY are all alike; at most 8 PRINTS).";
        Edge.edge(Edge.TERMS, pairs, "no prints: both stay", () -> {
            Edge.is(1, bare().two(0, 3));
            Edge.is(1, bare().two(2, 2));
        });
        Edge.edge(Edge.TERMS, pairs, "one of both stays", () -> {
            Edge.is(1, pair(1).two(0, 1));
            Edge.is(1, pair(1).two(1, 0));
            Edge.is(2, pair(1).two(0, 0));
            Edge.is(0, pair(1).two(1, 1));
        });
        Edge.edge(Edge.TERMS, pairs, "two prints of one way are alike", () -> {
            SnowKeeps s = Kit.go(Kit.of("places 2;path 0 1;walker 0;walker 0;"), 0, 1, 1, 1);
            Edge.is(1, s.two(0, 0));
            Edge.is(0, s.two(0, 1));
        });
        // 0>1 and 1>0 four times each: the one makes 0, 2, 4, 6 or 8 steps
        Edge.edge(Edge.TERMS, pairs, "8 prints", () -> Edge.is(5, pair(8).two(0, 0)));
        Edge.edge(Edge.TERMS, pairs, "9 prints", () -> {
            Edge.is(-1000, pair(9).two(0, 0));
            Edge.is(-1000, pair(14).two(0, 1));
        });
        Edge.edge(Edge.TERMS, pairs, "8 again as soon as one went", () -> {
            SnowKeeps s = pair(9);
            s.storm(1);
            Edge.is(5, s.two(1, 1));
        });
        Edge.edge(44, "ROWS OF TWO; SPENT.", "SPENT, none", () -> {
            Edge.is(SnowKeeps.SPENT, pair(9).two(0, 0));
            Edge.is(0, Kit.walked().two(0, 0));
        });
        String throwsOf = "two(int p, int q) throws NoSuchElementException";
        Edge.edge(44, throwsOf, "no such first place", () -> {
            Edge.refuses(Edge.NO_SUCH, Kit::walked, s -> s.two(4, 0));
            Edge.refuses(Edge.NO_SUCH, Kit::walked, s -> s.two(-1, 0));
        });
        Edge.edge(44, throwsOf, "no such second place", () -> {
            Edge.refuses(Edge.NO_SUCH, Kit::walked, s -> s.two(0, 4));
            Edge.refuses(Edge.NO_SUCH, Kit::walked, s -> s.two(0, -1));
        });
        Edge.edge(44, throwsOf, "no such place, though it would be SPENT", () -> {
            Edge.refuses(Edge.NO_SUCH, () -> pair(9), s -> s.two(2, 0));
            Edge.refuses(Edge.NO_SUCH, () -> pair(9), s -> s.two(0, 2));
        });
    }

    private static void clear() {
        String of = "Of rows of n STEPS of one from a PLACE on fresh snow (all kept) how many there are (only false), or how many of them leave PRINTS "
            + "with just one ROW from there (true).";
        Edge.edge(45, of, "no steps", () -> {
            Edge.is(1, bare().clear(0, 0, false));
            Edge.is(1, bare().clear(0, 0, true));
        });
        Edge.edge(45, of, "a place without paths", () -> {
            SnowKeeps s = Kit.of("places 2;");
            Edge.is(1, s.clear(1, 0, true));
            Edge.is(0, s.clear(1, 1, false));
            Edge.is(0, s.clear(1, 5, true));
        });
        Edge.edge(45, of, "just n steps, no fewer", () -> {
            Edge.is(2, bare().clear(0, 1, false));
            Edge.is(16, bare().clear(0, 4, false));
        });
        Edge.edge(45, of, "two of four steps leave the same", () -> Edge.is(14, bare().clear(0, 4, true)));
        Edge.edge(45, of, "all kept, whatever KEEP", () -> {
            SnowKeeps s = bare();
            s.keep(1);
            Edge.is(32, s.clear(0, 5, false));
            Edge.is(14, s.clear(0, 4, true));
        });
        Edge.edge(45, of, "on fresh snow, whatever prints there are", () -> {
            Edge.is(14, Kit.walked().clear(0, 4, true));
            Edge.is(1, pair(20).clear(0, 5, true));
        });
        // to one of nine and back, to another and back: 9 * 9 rows, of which the 9 that take one twice are alone
        Edge.edge(45, of, "nine paths from one place", () -> {
            Edge.is(81, star(0).clear(0, 4, false));
            Edge.is(9, star(0).clear(0, 4, true));
            Edge.is(729, star(0).clear(0, 5, false));
        });
    }

    private static void clearBounds() {
        String wrong = "IllegalArgumentException: n isn't 0 to 5.";
        Edge.edge(45, wrong, "5", () -> Edge.is(1, Kit.of(Kit.PAIR).clear(0, 5, true)));
        Edge.edge(45, wrong, "6", () -> {
            Edge.refuses(Edge.ARGUMENT, Kit::walked, s -> s.clear(0, 6, false));
            Edge.refuses(Edge.ARGUMENT, Kit::walked, s -> s.clear(0, 6, true));
        });
        Edge.edge(45, wrong, "below 0", () -> {
            Edge.refuses(Edge.ARGUMENT, Kit::walked, s -> s.clear(0, -1, false));
            Edge.refuses(Edge.ARGUMENT, Kit::walked, s -> s.clear(0, Integer.MIN_VALUE, true));
        });
        Edge.edge(45, wrong, "far above", () -> Edge.refuses(Edge.ARGUMENT, Kit::walked, s -> s.clear(0, Integer.MAX_VALUE, false)));
        String throwsOf = "clear(int p, int n, boolean only) throws NoSuchElementException, IllegalArgumentException";
        Edge.edge(45, throwsOf, "no such place", () -> {
            Edge.refuses(Edge.NO_SUCH, Kit::walked, s -> s.clear(4, 0, false));
            Edge.refuses(Edge.NO_SUCH, Kit::walked, s -> s.clear(-1, 0, true));
        });
        Edge.edge(45, throwsOf, "no such place is told first", () -> Edge.refuses(Edge.NO_SUCH, Kit::walked, s -> s.clear(4, 6, false)));
    }
}
