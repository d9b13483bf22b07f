/** Boundary cases of signs: promises 46 to 53, and what "Terms" says of them. */
final class SignEdges {
    private SignEdges() { }

    private static final String LINE = "places 6;path 0 1;path 1 2;path 2 3;path 3 4;path 4 5;";
    private static final String APART = "places 4;path 0 1;path 2 3;";
    /** From place 0 by at most 6 steps: just 2000 signs. */
    private static final String JUST_2000 = "places 8;path 3 5;path 1 2;path 6 3;path 4 7;path 5 1;path 3 4;path 2 5;path 0 2;path 5 7;path 2 3;"
        + "path 1 0;path 0 3;path 3 7;keep 6;";
    /** From place 0 by at most 6 steps: 2001 signs. */
    private static final String ONE_MORE = "places 7;path 5 3;path 6 3;path 5 0;path 3 0;path 5 6;path 5 1;path 0 4;path 1 0;path 2 5;path 6 4;"
        + "path 6 1;keep 5;";

    private static SnowKeeps told(String text, long... ways) {
        SnowKeeps s = Kit.of(text);
        Kit.fill(s, 0, 3, ways);
        return s;
    }

    private static SnowKeeps keeping(int keep, String text, long... ways) {
        SnowKeeps s = told(text, ways);
        s.keep(keep);
        return s;
    }

    private static SnowKeeps missing() {
        return Kit.walked();
    }

    static void run() {
        signs();
        signsBounds();
        writes();
        writesBounds();
        pens();
        patrol();
        tends();
        crowd();
        lasts();
        likewise(48, "PLACES from which it can be WRITTEN, as bits. Throws likewise (but the PLACE).", s -> s.pens(0), s -> s.pens(4), s -> s.pens(-1));
        likewise(49, "Throws likewise.", s -> s.patrol(0), s -> s.patrol(4), s -> s.patrol(-1));
        likewise(50, "Throws likewise.", s -> s.tends(0), s -> s.tends(4), s -> s.tends(-1));
        likewise(51, "Throws likewise.", s -> s.crowd(0), s -> s.crowd(4), s -> s.crowd(-1));
        likewise(52, "Throws likewise.", s -> s.lasts(0), s -> s.lasts(4), s -> s.lasts(-1));
        reads();
        readsBounds();
    }

    private static void signs() {
        String can = "SIGNS that can be: unlike sets of WAYS with PRINTS behind at most n STEPS of one, from a PLACE, on fresh snow (the last KEEP of "
            + "these STEPS); at most 2,000 (else SPENT).";
        Edge.edge(Edge.TERMS, can, "2000 are not too many", () -> Edge.is(2000, Kit.of(JUST_2000).signs(0, 6)));
        Edge.edge(Edge.TERMS, can, "2001 are", () -> Edge.is(-1000, Kit.of(ONE_MORE).signs(0, 6)));
        Edge.edge(Edge.TERMS, can, "no steps: the bare snow", () -> Edge.is(1, Kit.of(Kit.RING).signs(0, 0)));
        Edge.edge(Edge.TERMS, can, "no paths: the bare snow", () -> Edge.is(1, Kit.of("places 2;").signs(1, 6)));
        Edge.edge(Edge.TERMS, can, "at most n steps, fewer as well", () -> {
            Edge.is(3, Kit.of(Kit.RING).signs(0, 1));
            Edge.is(7, Kit.of(Kit.RING).signs(0, 2));
        });
        Edge.edge(Edge.TERMS, can, "to and fro leaves the same again", () -> {
            Edge.is(3, Kit.of(Kit.PAIR).signs(0, 2));
            Edge.is(3, Kit.of(Kit.PAIR).signs(0, 6));
        });
        Edge.edge(Edge.TERMS, can, "the last KEEP of one: each way alone", () -> {
            Edge.is(9, keeping(1, Kit.RING).signs(0, 6));
            Edge.is(3, keeping(1, Kit.PAIR).signs(0, 6));
        });
        Edge.edge(Edge.TERMS, can, "the last KEEP of two, of three steps", () -> {
            // from 0 on a line: none, 01, 01 10, 01 12; then 10 01, 12 21, 12 23
            Edge.is(6, keeping(2, LINE).signs(0, 3));
            Edge.is(6, keeping(3, LINE).signs(0, 3));
        });
        Edge.edge(Edge.TERMS, can, "on fresh snow, whatever prints there are", () -> Edge.is(3, Kit.walked().signs(0, 1)));
        Edge.edge(Edge.TERMS, can, "way 31 is one of them", () -> Edge.is(5, Kit.of(Kit.sixteenPaths()).signs(4, 1)));
    }

    private static void signsBounds() {
        String wrong = "SIGNS that can be; SPENT. IllegalArgumentException: n isn't 0 to 6.";
        Edge.edge(46, wrong, "6", () -> Edge.is(3, Kit.of(Kit.PAIR).signs(1, 6)));
        Edge.edge(46, wrong, "7", () -> Edge.refuses(Edge.ARGUMENT, Kit::walked, s -> s.signs(0, 7)));
        Edge.edge(46, wrong, "below 0", () -> Edge.refuses(Edge.ARGUMENT, Kit::walked, s -> s.signs(0, -1)));
        Edge.edge(46, wrong, "far off", () -> {
            Edge.refuses(Edge.ARGUMENT, Kit::walked, s -> s.signs(0, Integer.MAX_VALUE));
            Edge.refuses(Edge.ARGUMENT, Kit::walked, s -> s.signs(0, Integer.MIN_VALUE));
        });
        Edge.edge(46, wrong, "SPENT", () -> Edge.is(SnowKeeps.SPENT, Kit.of(ONE_MORE).signs(0, 6)));
        Edge.edge(46, wrong, "fewer behind too many", () -> {
            SnowKeeps s = Kit.of(ONE_MORE);
            s.signs(0, 6);
            Edge.is(5, s.signs(0, 1));
        });
        String throwsOf = "signs(int p, int n) throws NoSuchElementException, IllegalArgumentException";
        Edge.edge(46, throwsOf, "no such place", () -> {
            Edge.refuses(Edge.NO_SUCH, Kit::walked, s -> s.signs(4, 0));
            Edge.refuses(Edge.NO_SUCH, Kit::walked, s -> s.signs(-1, 0));
        });
        Edge.edge(46, throwsOf, "no such place is told first", () -> Edge.refuses(Edge.NO_SUCH, Kit::walked, s -> s.signs(4, 7)));
    }

    private static void writes() {
        String written = "WRITTEN from a PLACE on fresh snow: by STEPS, no more than KEEP, along WAYS of it alone, each at least once.";
        Edge.edge(Edge.TERMS, written, "no ways: no steps", () -> Edge.is(0, told(Kit.RING).writes(2, 0)));
        Edge.edge(Edge.TERMS, written, "one way", () -> {
            Edge.is(1, told(Kit.RING, 0).writes(0, 0));
            Edge.is(-1, told(Kit.RING, 0).writes(1, 0));
        });
        Edge.edge(Edge.TERMS, written, "just KEEP steps", () -> Edge.is(4, keeping(4, Kit.RING, 0, 1, 2).writes(0, 0)));
        Edge.edge(Edge.TERMS, written, "one more than KEEP", () -> Edge.is(-1, keeping(3, Kit.RING, 0, 1, 2).writes(0, 0)));
        Edge.edge(Edge.TERMS, written, "no other ways between", () -> Edge.is(-1, told(Kit.RING, 0, 4).writes(0, 0)));
        Edge.edge(Edge.TERMS, written, "each at least once", () -> {
            Edge.is(-1, told(Kit.RING, 0, 2, 7).writes(0, 0));
            Edge.is(-1, told(Kit.RING, 0, 3).writes(0, 0));
        });
        Edge.edge(Edge.TERMS, written, "one way twice, where it must be", () -> Edge.is(4, told(Kit.RING, 1, 2, 0).writes(0, 0)));
        Edge.edge(Edge.TERMS, written, "on fresh snow", () -> {
            SnowKeeps s = Kit.walked();
            Kit.fill(s, 0, 0, 0, 1);
            Edge.is(2, s.writes(0, 0));
        });
    }

    private static void writesBounds() {
        String fewest = "The fewest STEPS by which a SIGN, told by its WAYS in a TRAY (8 unlike ones at most), is WRITTEN from a PLACE; NONE: it can't be.";
        Edge.edge(47, fewest, "8 unlike ones", () -> Edge.is(8, keeping(8, Kit.RING, 0, 1, 2, 3, 4, 5, 6, 7).writes(0, 0)));
        Edge.edge(47, fewest, "8 unlike ones, each several times", () -> {
            long[] ways = new long[30];
            for (int i = 0; i < 30; i++) {
                ways[i] = i % 8;
            }
            Edge.is(8, keeping(8, Kit.RING, ways).writes(3, 0));
        });
        Edge.edge(47, fewest, "8 unlike ones that need more than 8 steps", () -> {
            // to and fro along 0 1 2 3 4, begun in its middle
            Edge.is(8, told(LINE, 0, 1, 2, 3, 4, 5, 6, 7).writes(2, 0));
            Edge.is(-1, keeping(7, LINE, 0, 1, 2, 3, 4, 5, 6, 7).writes(2, 0));
            Edge.is(-1, told(LINE, 0, 1, 2, 3, 4, 5, 6, 7).writes(5, 0));
        });
        Edge.edge(47, fewest, "it can't be", () -> Edge.is(-1, told(APART, 0, 2).writes(0, 0)));
        String wrong = "NoSuchElementException: the PLACE, TRAY; IllegalStateException: it is MISSING; IllegalArgumentException: what is no WAY, more than "
            + "8 unlike ones.";
        Edge.edge(47, wrong, "the place", () -> {
            Edge.refuses(Edge.NO_SUCH, () -> told(Kit.RING, 0), s -> s.writes(4, 0));
            Edge.refuses(Edge.NO_SUCH, () -> told(Kit.RING, 0), s -> s.writes(-1, 0));
        });
        Edge.edge(47, wrong, "the tray", () -> {
            Edge.refuses(Edge.NO_SUCH, () -> told(Kit.RING, 0), s -> s.writes(0, 4));
            Edge.refuses(Edge.NO_SUCH, () -> told(Kit.RING, 0), s -> s.writes(0, -1));
        });
        Edge.edge(47, wrong, "it is missing", () -> Edge.refuses(Edge.STATE, () -> told(Kit.RING, 0), s -> s.writes(0, 3)));
        Edge.edge(47, wrong, "the place ahead of missing, of no way", () -> {
            Edge.refuses(Edge.NO_SUCH, () -> told(Kit.RING, 8), s -> s.writes(4, 3));
            Edge.refuses(Edge.NO_SUCH, () -> told(Kit.RING, 8), s -> s.writes(4, 0));
        });
        Edge.edge(47, wrong, "the last way, one above", () -> {
            Edge.is(1, told(Kit.RING, 7).writes(0, 0));
            Edge.refuses(Edge.ARGUMENT, () -> told(Kit.RING, 8), s -> s.writes(0, 0));
        });
        Edge.edge(47, wrong, "below 0", () -> {
            Edge.refuses(Edge.ARGUMENT, () -> told(Kit.RING, -1), s -> s.writes(0, 0));
            Edge.refuses(Edge.ARGUMENT, () -> told(Kit.RING, Long.MIN_VALUE), s -> s.writes(0, 0));
        });
        Edge.edge(47, wrong, "far off, which as an int would be 0", () -> {
            Edge.refuses(Edge.ARGUMENT, () -> told(Kit.RING, 1L << 32), s -> s.writes(0, 0));
            Edge.refuses(Edge.ARGUMENT, () -> told(Kit.RING, Long.MAX_VALUE), s -> s.writes(0, 0));
        });
        Edge.edge(47, wrong, "no paths: 0 is no way", () -> Edge.refuses(Edge.ARGUMENT, () -> told("places 2;", 0), s -> s.writes(0, 0)));
        Edge.edge(47, wrong, "nine unlike ones", () ->
            Edge.refuses(Edge.ARGUMENT, () -> told(LINE, 0, 1, 2, 3, 4, 5, 6, 7, 8), s -> s.writes(0, 0)));
        Edge.edge(47, wrong, "the last of several is no way", () -> Edge.refuses(Edge.ARGUMENT, () -> told(Kit.RING, 0, 2, 9), s -> s.writes(0, 0)));
    }

    private static void pens() {
        String bits = "PLACES from which it can be WRITTEN, as bits.";
        Edge.edge(48, bits, "none", () -> Edge.is(0, told(APART, 0, 2).pens(0)));
        Edge.edge(48, bits, "no ways: all ten", () -> Edge.is(1023, told("places 10;").pens(0)));
        Edge.edge(48, bits, "no ways, no plain", () -> {
            SnowKeeps s = new SnowKeeps();
            s.tray(0, 0, 0);
            Edge.is(0, s.pens(0));
        });
        Edge.edge(48, bits, "just KEEP steps, one more", () -> {
            Edge.is(15, keeping(8, Kit.RING, 0, 1, 2, 3, 4, 5, 6, 7).pens(0));
            Edge.is(0, keeping(7, Kit.RING, 0, 1, 2, 3, 4, 5, 6, 7).pens(0));
        });
        Edge.edge(48, bits, "from some it takes more than KEEP", () -> {
            // 0>1 1>0 1>2 needs four steps from 0, three from 1
            Edge.is(3, keeping(4, Kit.RING, 0, 1, 2).pens(0));
            Edge.is(2, keeping(3, Kit.RING, 0, 1, 2).pens(0));
        });
        Edge.edge(48, bits, "place 9", () -> Edge.is(1 << 9, told("places 10;path 9 0;", 0).pens(0)));
    }

    private static void patrol() {
        String fewest = "The fewest STEPS of a PATROL of it (0: no WAYS); NONE: there is none.";
        Edge.edge(49, fewest, "no ways", () -> Edge.is(0, told(Kit.RING).patrol(0)));
        Edge.edge(49, fewest, "no ways, no plain", () -> {
            SnowKeeps s = new SnowKeeps();
            s.tray(0, 0, 0);
            Edge.is(0, s.patrol(0));
        });
        Edge.edge(49, fewest, "no ways, behind a patrol of some", () -> {
            SnowKeeps s = told(Kit.RING, 0, 4);
            Edge.is(4, s.patrol(0));
            s.tray(1, 0, 0);
            Edge.is(0, s.patrol(1));
        });
        Edge.edge(49, fewest, "no ways, behind a patrol on another plain", () -> {
            SnowKeeps s = told(Kit.RING, 7);
            Edge.is(2, s.patrol(0));
            Kit.tell(s, "places 1;");
            s.tray(0, 0, 0);
            Edge.is(0, s.patrol(0));
        });
        Edge.edge(49, fewest, "there is none", () -> Edge.is(-1, told(APART, 0, 2).patrol(0)));
        Edge.edge(49, fewest, "one way: there and back", () -> {
            Edge.is(2, told(APART, 3).patrol(0));
            Edge.is(2, told(APART, 0).patrol(0));
        });
        Edge.edge(49, fewest, "more than KEEP", () -> Edge.is(8, keeping(1, Kit.RING, 0, 1, 2, 3, 4, 5, 6, 7).patrol(0)));
        String round = "A PATROL of a SIGN goes round, by any WAYS, through all of it and ends where it began; it TENDS it, if its STEPS are not more than KEEP.";
        Edge.edge(Edge.TERMS, round, "by ways that are none of it", () -> Edge.is(4, told(Kit.RING, 0, 4).patrol(0)));
        Edge.edge(Edge.TERMS, round, "to the ends of a line and back", () -> Edge.is(10, told(LINE, 0, 8).patrol(0)));
        Edge.edge(Edge.TERMS, round, "just KEEP, one more", () -> {
            Edge.is(true, keeping(10, LINE, 0, 8).tends(0));
            Edge.is(false, keeping(9, LINE, 0, 8).tends(0));
        });
    }

    private static void tends() {
        String whether = "Whether that TENDS it.";
        Edge.edge(50, whether, "no ways, KEEP of one", () -> Edge.is(true, keeping(1, Kit.RING).tends(0)));
        Edge.edge(50, whether, "two steps, KEEP of two and one", () -> {
            Edge.is(true, keeping(2, Kit.RING, 0).tends(0));
            Edge.is(false, keeping(1, Kit.RING, 0).tends(0));
        });
        Edge.edge(50, whether, "there is none", () -> Edge.is(false, keeping(60, APART, 0, 2).tends(0)));
    }

    private static void crowd() {
        String most = "The most STEPS of others (0 to 60) behind each STEP of a PATROL by which it still TENDS it; NONE: it does not even alone, there is none.";
        Edge.edge(51, most, "not even alone", () -> Edge.is(-1, keeping(1, Kit.RING, 0).crowd(0)));
        Edge.edge(51, most, "just alone", () -> {
            Edge.is(0, keeping(2, Kit.RING, 0).crowd(0));
            Edge.is(0, keeping(3, Kit.RING, 0).crowd(0));
        });
        Edge.edge(51, most, "just one other", () -> Edge.is(1, keeping(4, Kit.RING, 0).crowd(0)));
        Edge.edge(51, most, "29 others: two steps with KEEP of 60", () -> Edge.is(29, keeping(60, Kit.RING, 0).crowd(0)));
        Edge.edge(51, most, "28 with KEEP of 59", () -> Edge.is(28, keeping(59, Kit.RING, 0).crowd(0)));
        Edge.edge(51, most, "no ways: 60, whatever KEEP", () -> {
            Edge.is(60, keeping(1, Kit.RING).crowd(0));
            Edge.is(60, keeping(60, Kit.RING).crowd(0));
        });
        Edge.edge(51, most, "there is none", () -> Edge.is(-1, keeping(60, APART, 0, 2).crowd(0)));
    }

    private static void lasts() {
        String how = "How long it LASTS (0: not all has PRINTS now); NONE: it has no WAYS.";
        String sign = "A SIGN LASTS (told by its WAYS in a TRAY) so many STEPS of anybody, none of them along it, as till not all of it has PRINTS.";
        Edge.edge(52, how, "no ways", () -> Edge.is(-1, told(Kit.RING).lasts(0)));
        Edge.edge(52, how, "on fresh snow", () -> Edge.is(0, told(Kit.RING, 0).lasts(0)));
        Edge.edge(52, how, "all but one have prints", () -> {
            SnowKeeps s = Kit.walked();
            Kit.fill(s, 0, 0, 0, 2, 4, 6, 7);
            Edge.is(0, s.lasts(0));
            Kit.fill(s, 0, 0, 7, 6, 4, 2, 0);
            Edge.is(0, s.lasts(0));
        });
        Edge.edge(Edge.TERMS, sign, "till its eldest goes", () -> {
            SnowKeeps s = Kit.walked();
            Kit.fill(s, 0, 0, 4, 2, 0, 6);
            Edge.is(1, s.lasts(0));
            Kit.fill(s, 0, 0, 6, 4);
            Edge.is(4, s.lasts(0));
            Kit.fill(s, 0, 0, 6);
            Edge.is(5, s.lasts(0));
        });
        Edge.edge(Edge.TERMS, sign, "way 31", () -> {
            SnowKeeps s = told(Kit.sixteenPaths() + "walker 4;", 31);
            Edge.is(0, s.lasts(0));
            Kit.go(s, 0, 3);
            Edge.is(20, s.lasts(0));
        });
        Edge.edge(Edge.TERMS, sign, "60 steps of KEEP of 60", () -> {
            SnowKeeps s = Kit.toAndFro(keeping(60, Kit.PAIR, 0), 1);
            Edge.is(60, s.lasts(0));
        });
    }

    /** What all calls that take a SIGN by its WAYS refuse. */
    private static void likewise(int promise, String words, Edge.Call call, Edge.Call above, Edge.Call below) {
        Edge.edge(promise, words, "no such tray", () -> {
            Edge.refuses(Edge.NO_SUCH, () -> told(Kit.RING, 0), above);
            Edge.refuses(Edge.NO_SUCH, () -> told(Kit.RING, 0), below);
        });
        Edge.edge(promise, words, "it is missing", () -> Edge.refuses(Edge.STATE, SignEdges::missing, call));
        Edge.edge(promise, words, "no way: one above the last, below 0, far off", () -> {
            Edge.refuses(Edge.ARGUMENT, () -> told(Kit.RING, 8), call);
            Edge.refuses(Edge.ARGUMENT, () -> told(Kit.RING, 0, -1), call);
            Edge.refuses(Edge.ARGUMENT, () -> told(Kit.RING, 1L << 32), call);
        });
        Edge.edge(promise, words, "nine unlike ones", () -> Edge.refuses(Edge.ARGUMENT, () -> told(LINE, 8, 7, 6, 5, 4, 3, 2, 1, 0), call));
        Edge.edge(promise, words, "eight unlike ones are none too many", () -> call.on(told(LINE, 8, 7, 6, 5, 4, 3, 2, 1, 1, 8)));
    }

    private static void reads() {
        String comes = "The SIGN of all PRINTS comes into a TRAY by its WAYS, the least first, as many as it has places: how many.";
        Edge.edge(53, comes, "no prints", () -> {
            SnowKeeps s = told(Kit.RING, 4, 5);
            Edge.is(0, s.reads(0));
        });
        Edge.edge(53, comes, "no places", () -> {
            SnowKeeps s = Kit.walked();
            s.tray(0, 0, 0);
            Edge.is(0, s.reads(0));
            Edge.is(0, s.patrol(0));
        });
        Edge.edge(53, comes, "fewer places than ways: the least come", () -> {
            SnowKeeps s = Kit.walked();
            s.tray(0, 0, 2);
            Edge.is(2, s.reads(0));
            Edge.is(1, s.pens(0));
            Edge.is(2, s.writes(0, 0));
        });
        Edge.edge(53, comes, "just as many", () -> {
            SnowKeeps s = Kit.walked();
            s.tray(0, 0, 4);
            Edge.is(4, s.reads(0));
            Edge.is(15, s.pens(0));
            Edge.is(4, s.writes(2, 0));
        });
        Edge.edge(53, comes, "more places than ways: the others stay", () -> {
            SnowKeeps s = Kit.walked();
            Kit.fill(s, 0, 0, 7, 7, 7, 7, 7, 7);
            Edge.is(4, s.reads(0));
            Edge.is(5, s.writes(0, 0));
        });
        Edge.edge(53, comes, "each way once, however many prints", () -> {
            SnowKeeps s = Kit.toAndFro(Kit.of(Kit.PAIR), 20);
            s.tray(0, 0, 30);
            Edge.is(2, s.reads(0));
        });
        Edge.edge(53, comes, "all thirty places", () -> {
            SnowKeeps s = allWays();
            s.tray(0, 0, 30);
            Edge.is(30, s.reads(0));
            Edge.is(32, s.judge(0, 3));
        });
        Edge.edge(53, comes, "way 31", () -> {
            SnowKeeps s = Kit.go(Kit.of(Kit.sixteenPaths() + "walker 4;"), 0, 3);
            s.tray(0, 0, 1);
            Edge.is(1, s.reads(0));
            Edge.is(1 << 4, s.pens(0));
        });
    }

    /** Each of 32 ways has a print: sixteen walks to and fro. */
    private static SnowKeeps allWays() {
        SnowKeeps s = Kit.of(Kit.sixteenPaths() + "walker 0;keep 60;");
        for (int k = 0; k < 16; k++) {
            int from = s.path(k, 0);
            if (s.walker(0, 0) != from) {
                Kit.go(s, 0, from);
            }
            Kit.go(s, 0, s.path(k, 1), 0, from);
        }
        return s;
    }

    private static void readsBounds() {
        String wrong = "NoSuchElementException: no such TRAY; IllegalStateException: it is MISSING.";
        Edge.edge(53, wrong, "no such tray", () -> {
            Edge.refuses(Edge.NO_SUCH, Kit::walked, s -> s.reads(4));
            Edge.refuses(Edge.NO_SUCH, Kit::walked, s -> s.reads(-1));
        });
        Edge.edge(53, wrong, "it is missing", () -> {
            Edge.refuses(Edge.STATE, Kit::walked, s -> s.reads(0));
            Edge.refuses(Edge.STATE, Kit::walked, s -> s.reads(3));
        });
    }
}
