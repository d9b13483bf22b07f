/** Boundary cases of what prints there are: promises 20 to 30, and what "Terms" says of them. */
final class PrintEdges {
    private PrintEdges() { }

    /** The ring, walked, with room for eight prints. */
    private static SnowKeeps roomy() {
        SnowKeeps s = Kit.walked();
        s.keep(8);
        return s;
    }

    private static SnowKeeps bare() {
        return Kit.of(Kit.RING);
    }

    static void run() {
        prints();
        age();
        seenAndBare();
        crossing();
        fades();
        hired();
        remains();
        hires();
        wolves();
        wolf();
    }

    private static void prints() {
        String from = "PRINTS from a PLACE to another one.";
        Edge.edge(20, from, "none, no path, the same place", () -> {
            Edge.is(0, bare().prints(0, 1));
            Edge.is(0, Kit.walked().prints(0, 2));
            Edge.is(0, Kit.walked().prints(2, 2));
            Edge.is(0, Kit.walked().prints(3, 2));
        });
        Edge.edge(20, from, "30 of 60 each way", () -> {
            SnowKeeps s = Kit.toAndFro(Kit.of(Kit.PAIR + "keep 60;"), 99);
            Edge.is(30, s.prints(0, 1));
            Edge.is(30, s.prints(1, 0));
        });
        String throwsOf = "prints(int a, int b) throws NoSuchElementException";
        Edge.edge(20, throwsOf, "no such first place", () -> {
            Edge.refuses(Edge.NO_SUCH, Kit::walked, s -> s.prints(4, 0));
            Edge.refuses(Edge.NO_SUCH, Kit::walked, s -> s.prints(-1, 0));
        });
        Edge.edge(20, throwsOf, "no such second place", () -> {
            Edge.refuses(Edge.NO_SUCH, Kit::walked, s -> s.prints(0, 4));
            Edge.refuses(Edge.NO_SUCH, Kit::walked, s -> s.prints(0, -1));
        });
        Edge.edge(20, throwsOf, "without a plain", () -> Edge.refuses(Edge.NO_SUCH, SnowKeeps::new, s -> s.prints(0, 0)));
    }

    private static void age() {
        String younger = "How many PRINTS are younger than the latest from a PLACE to another one; NONE: there is none.";
        Edge.edge(21, younger, "there is none", () -> {
            Edge.is(-1, bare().age(0, 1));
            Edge.is(-1, Kit.walked().age(1, 0));
            Edge.is(-1, Kit.walked().age(0, 2));
            Edge.is(-1, Kit.walked().age(1, 1));
        });
        Edge.edge(21, younger, "there is none any more", () -> {
            SnowKeeps s = Kit.walked();
            s.storm(1);
            Edge.is(-1, s.age(0, 1));
            Edge.is(2, s.age(1, 2));
        });
        Edge.edge(21, younger, "the latest of all", () -> Edge.is(0, Kit.walked().age(3, 0)));
        Edge.edge(21, younger, "the eldest of all", () -> Edge.is(4, Kit.walked().age(0, 1)));
        Edge.edge(21, younger, "the latest of two", () -> Edge.is(1, Kit.walked().age(2, 3)));
        Edge.edge(21, younger, "59 of 60", () -> {
            SnowKeeps s = Kit.of("places 3;path 0 1;path 1 2;walker 0;walker 1;keep 60;");
            Kit.go(s, 1, 2);
            Kit.toAndFro(s, 59);
            Edge.is(59, s.age(1, 2));
            Kit.go(s, 0, 0);
            Edge.is(-1, s.age(1, 2));
        });
        String throwsOf = "age(int a, int b) throws NoSuchElementException";
        Edge.edge(21, throwsOf, "no such first place", () -> {
            Edge.refuses(Edge.NO_SUCH, Kit::walked, s -> s.age(4, 0));
            Edge.refuses(Edge.NO_SUCH, Kit::walked, s -> s.age(-1, 0));
        });
        Edge.edge(21, throwsOf, "no such second place", () -> {
            Edge.refuses(Edge.NO_SUCH, Kit::walked, s -> s.age(0, 4));
            Edge.refuses(Edge.NO_SUCH, Kit::walked, s -> s.age(0, -1));
        });
    }

    private static void seenAndBare() {
        String bits = "PLACES to which PRINTS lead from one (leaving), or from which they come there, as bits.";
        Edge.edge(22, bits, "none", () -> {
            Edge.is(0, bare().seen(0, true));
            Edge.is(0, bare().seen(0, false));
        });
        Edge.edge(22, bits, "place 0 and place 9", () -> {
            SnowKeeps s = Kit.go(Kit.of("places 10;path 9 0;walker 0;"), 0, 9);
            Edge.is(1 << 9, s.seen(0, true));
            Edge.is(1, s.seen(9, false));
            Edge.is(0, s.seen(0, false));
            Edge.is(0, s.seen(9, true));
        });
        Edge.edge(22, bits, "all nine others", () -> {
            SnowKeeps s = Kit.of("places 10;path 0 1;path 0 2;path 0 3;path 0 4;path 0 5;path 0 6;path 0 7;path 0 8;path 0 9;walker 0;keep 60;");
            for (int p = 1; p < 10; p++) {
                Kit.go(s, 0, p, 0, 0);
            }
            Edge.is(1022, s.seen(0, true));
            Edge.is(1022, s.seen(0, false));
            Edge.is(1, s.seen(9, true));
        });
        String throwsOf = "seen(int p, boolean leaving) throws NoSuchElementException";
        Edge.edge(22, throwsOf, "no such place", () -> {
            Edge.refuses(Edge.NO_SUCH, Kit::walked, s -> s.seen(4, true));
            Edge.refuses(Edge.NO_SUCH, Kit::walked, s -> s.seen(4, false));
            Edge.refuses(Edge.NO_SUCH, Kit::walked, s -> s.seen(-1, true));
            Edge.refuses(Edge.NO_SUCH, Kit::walked, s -> s.seen(-1, false));
        });
        String without = "PATHS without PRINTS, as bits.";
        Edge.edge(23, without, "all of 16", () -> Edge.is(65535, Kit.of(Kit.sixteenPaths()).bare()));
        Edge.edge(23, without, "no paths", () -> Edge.is(0, Kit.of("places 3;").bare()));
        Edge.edge(23, without, "no plain", () -> Edge.is(0, new SnowKeeps().bare()));
        Edge.edge(23, without, "the last one has a print of its second way", () ->
            Edge.is(32767, Kit.go(Kit.of(Kit.sixteenPaths() + "walker 4;"), 0, 3).bare()));
        Edge.edge(23, without, "none is bare, then one", () -> {
            SnowKeeps s = Kit.walked();
            Edge.is(0, s.bare());
            s.storm(1);
            Edge.is(1, s.bare());
        });
    }

    private static void crossing() {
        String both = "PLACES that PRINTS of both WALKERS touch, as bits.";
        Edge.edge(24, both, "none has prints", () -> Edge.is(0, bare().crossing(0, 1)));
        Edge.edge(24, both, "one of both has none", () -> Edge.is(0, Kit.go(bare(), 0, 1).crossing(0, 1)));
        Edge.edge(24, both, "they touch one place, from which the one goes and to which the other comes", () -> {
            SnowKeeps s = Kit.go(Kit.of("places 3;path 0 1;path 1 2;walker 1;walker 2;"), 0, 0, 1, 1);
            Edge.is(2, s.crossing(0, 1));
            Edge.is(2, s.crossing(1, 0));
        });
        Edge.edge(24, both, "a place where one stands without prints is not touched", () -> {
            SnowKeeps s = Kit.go(Kit.of("places 3;path 0 1;path 1 2;walker 1;walker 1;"), 0, 0);
            Edge.is(0, s.crossing(0, 1));
        });
        Edge.edge(24, both, "both are the same one", () -> Edge.is(15, Kit.walked().crossing(0, 0)));
        Edge.edge(24, both, "place 9", () ->
            Edge.is(1 << 9, Kit.go(Kit.of("places 10;path 8 9;path 7 9;walker 8;walker 7;"), 0, 9, 1, 9).crossing(0, 1)));
        String throwsOf = "crossing(int w, int v) throws NoSuchElementException";
        Edge.edge(24, throwsOf, "no such first walker", () -> {
            Edge.refuses(Edge.NO_SUCH, Kit::walked, s -> s.crossing(2, 0));
            Edge.refuses(Edge.NO_SUCH, Kit::walked, s -> s.crossing(-1, 0));
        });
        Edge.edge(24, throwsOf, "no such second walker", () -> {
            Edge.refuses(Edge.NO_SUCH, Kit::walked, s -> s.crossing(0, 2));
            Edge.refuses(Edge.NO_SUCH, Kit::walked, s -> s.crossing(0, -1));
        });
    }

    private static void fades() {
        String none = "FADES (0: there is none).";
        Edge.edge(25, none, "there is none", () -> {
            Edge.is(0, bare().fades(0, 1));
            Edge.is(0, Kit.walked().fades(1, 0));
            Edge.is(0, Kit.walked().fades(0, 2));
            Edge.is(0, Kit.walked().fades(3, 3));
        });
        String till = "FADES: how many STEPS (of anybody, none of them along that WAY) till no PRINT from a PLACE to another one is kept.";
        Edge.edge(Edge.TERMS, till, "the eldest on full snow: one", () -> Edge.is(1, Kit.walked().fades(0, 1)));
        Edge.edge(Edge.TERMS, till, "the latest on full snow: KEEP", () -> Edge.is(5, Kit.walked().fades(3, 0)));
        Edge.edge(Edge.TERMS, till, "the later of two counts", () -> Edge.is(4, Kit.walked().fades(2, 3)));
        Edge.edge(Edge.TERMS, till, "a single print of 60", () -> Edge.is(60, Kit.toAndFro(Kit.of(Kit.PAIR + "keep 60;"), 1).fades(0, 1)));
        Edge.edge(Edge.TERMS, till, "KEEP of one", () -> Edge.is(1, Kit.toAndFro(Kit.of(Kit.PAIR + "keep 1;"), 1).fades(0, 1)));
        Edge.edge(Edge.TERMS, till, "the snow fills first", () -> Edge.is(4, roomy().fades(0, 1)));
        Edge.edge(Edge.TERMS, till, "they do so when made", () -> {
            SnowKeeps s = Kit.of("places 3;path 0 1;path 1 2;walker 0;walker 1;keep 4;");
            Kit.go(s, 0, 1, 1, 2);
            int due = s.fades(0, 1);
            for (int i = 0; i < due; i++) {
                Edge.is(1, s.prints(0, 1));
                Kit.go(s, 1, i % 2 == 0 ? 1 : 2);
            }
            Edge.is(0, s.prints(0, 1));
        });
        String storms = "All below is asked as if there were no storms, but for TURNS, TOLD STEPS and RETRACE.";
        Edge.edge(Edge.TERMS, storms, "fades, hired, remains, hires ahead of a storm", () -> {
            SnowKeeps s = Kit.walkedOn(Kit.RING + "storm 6 60;");
            Edge.is(4, s.fades(2, 3));
            Edge.is(4, s.hired(0));
            Edge.is(2, s.remains(0, 2));
            Edge.is(2, s.hires(0, 3));
        });
        Edge.edge(Edge.TERMS, storms, "blur ahead of a storm", () -> {
            SnowKeeps s = Kit.walkedOn(Kit.RING + "storm 6 60;");
            Edge.is(2, s.blur(0, 1, 0));
            Edge.is(1, s.blur(0, 1, 1));
        });
        Edge.edge(Edge.TERMS, storms, "fresh snow where each step has its storm", () -> {
            SnowKeeps s = Kit.of(Kit.RING + "storm 1 60;");
            Kit.fill(s, 0, 0, 0, 2);
            Edge.is(2, s.writes(0, 0));
            Edge.is(4, s.patrol(0));
            Edge.is(true, s.tends(0));
            Edge.is(0, s.crowd(0));
            Edge.is(7, s.signs(0, 2));
            Edge.is(14, s.clear(0, 4, true));
            Edge.is(3, s.homes(1, 0));
            Kit.fill(s, 0, 0, 3, 1);
            Edge.is(1, s.bargain(0));
        });
        Edge.edge(Edge.TERMS, storms, "how long a sign lasts ahead of a storm", () -> {
            SnowKeeps s = Kit.walkedOn(Kit.RING + "storm 6 60;");
            Kit.fill(s, 0, 0, 2, 6);
            Edge.is(3, s.lasts(0));
        });
        Edge.edge(Edge.TERMS, storms, "but turns have theirs", () -> {
            SnowKeeps s = Kit.of(Kit.PAIR + "storm 2 2;");
            Edge.is(2, s.again(0));
            Edge.is(0, s.again(1));
        });
        Edge.edge(Edge.TERMS, storms, "but retrace has its", () -> {
            SnowKeeps s = Kit.walkedOn(Kit.RING + "storm 6 60;");
            Edge.is(1, s.retrace(0, 0));
            Edge.is(1, s.goesBack(0));
            Edge.is(0, s.count(5));
        });
        String throwsOf = "fades(int a, int b) throws NoSuchElementException";
        Edge.edge(25, throwsOf, "no such first place", () -> {
            Edge.refuses(Edge.NO_SUCH, Kit::walked, s -> s.fades(4, 0));
            Edge.refuses(Edge.NO_SUCH, Kit::walked, s -> s.fades(-1, 0));
        });
        Edge.edge(25, throwsOf, "no such second place", () -> {
            Edge.refuses(Edge.NO_SUCH, Kit::walked, s -> s.fades(0, 4));
            Edge.refuses(Edge.NO_SUCH, Kit::walked, s -> s.fades(0, -1));
        });
    }

    private static void hired() {
        Edge.edge(26, "HIRED (0: there is none).", "there is none", () -> {
            Edge.is(0, bare().hired(0));
            SnowKeeps s = Kit.walked();
            s.noon();
            Edge.is(0, s.hired(0));
        });
        String till = "HIRED for a WALKER: how many STEPS of others till none of its PRINTS is kept.";
        Edge.edge(Edge.TERMS, till, "its latest is the eldest of all: one", () -> {
            SnowKeeps s = Kit.walked();
            s.storm(3);
            s.keep(2);
            Edge.is(1, s.hired(0));
        });
        Edge.edge(Edge.TERMS, till, "its latest is the latest of all: KEEP", () -> Edge.is(5, Kit.walked().hired(1)));
        Edge.edge(Edge.TERMS, till, "60 for a single print", () -> Edge.is(60, Kit.toAndFro(Kit.of(Kit.PAIR + "keep 60;"), 1).hired(0)));
        Edge.edge(Edge.TERMS, till, "they do so when made", () -> {
            SnowKeeps s = Kit.go(Kit.of("places 2;path 0 1;walker 0;walker 0;keep 3;"), 1, 1, 1, 0);
            int due = s.hired(1);
            for (int i = 0; i < due; i++) {
                Edge.is(true, s.walker(1, 2) > 0);
                Kit.go(s, 0, 1 - i % 2);
            }
            Edge.is(0, s.walker(1, 2));
        });
        String throwsOf = "hired(int w) throws NoSuchElementException";
        Edge.edge(26, throwsOf, "no such walker", () -> {
            Edge.refuses(Edge.NO_SUCH, Kit::walked, s -> s.hired(2));
            Edge.refuses(Edge.NO_SUCH, Kit::walked, s -> s.hired(-1));
        });
    }

    private static void remains() {
        String behind = "PRINTS of a WALKER that are kept behind n STEPS of others. IllegalArgumentException: n is below 0.";
        Edge.edge(27, behind, "0 steps", () -> Edge.is(3, Kit.walked().remains(0, 0)));
        Edge.edge(27, behind, "just as many as fit", () -> Edge.is(3, roomy().remains(0, 3)));
        Edge.edge(27, behind, "one more", () -> Edge.is(2, roomy().remains(0, 4)));
        Edge.edge(27, behind, "one ahead of the last one's end, at it", () -> {
            Edge.is(1, Kit.walked().remains(0, 3));
            Edge.is(0, Kit.walked().remains(0, 4));
        });
        Edge.edge(27, behind, "just as many as make all go, and more", () -> {
            Edge.is(1, Kit.walked().remains(1, 4));
            Edge.is(0, Kit.walked().remains(1, 5));
            Edge.is(0, Kit.walked().remains(1, 6));
        });
        Edge.edge(27, behind, "the most that an int holds", () -> {
            Edge.is(0, Kit.walked().remains(1, Integer.MAX_VALUE));
            Edge.is(0, roomy().remains(0, Integer.MAX_VALUE - 1));
        });
        Edge.edge(27, behind, "on fresh snow", () -> Edge.is(0, bare().remains(0, 0)));
        Edge.edge(27, behind, "below 0", () -> {
            Edge.refuses(Edge.ARGUMENT, Kit::walked, s -> s.remains(0, -1));
            Edge.refuses(Edge.ARGUMENT, Kit::walked, s -> s.remains(0, Integer.MIN_VALUE));
        });
        String throwsOf = "remains(int w, int n) throws NoSuchElementException, IllegalArgumentException";
        Edge.edge(27, throwsOf, "no such walker", () -> {
            Edge.refuses(Edge.NO_SUCH, Kit::walked, s -> s.remains(2, 0));
            Edge.refuses(Edge.NO_SUCH, Kit::walked, s -> s.remains(-1, 0));
        });
        Edge.edge(27, throwsOf, "no such walker is told ahead of n", () -> Edge.refuses(Edge.NO_SUCH, Kit::walked, s -> s.remains(2, -1)));
    }

    private static void hires() {
        String fewest = "The fewest others, each making so many STEPS (1 to 30), till none of a WALKER's PRINTS is kept.";
        Edge.edge(28, fewest, "there is none", () -> Edge.is(0, bare().hires(0, 1)));
        Edge.edge(28, fewest, "1 each", () -> Edge.is(4, Kit.walked().hires(0, 1)));
        Edge.edge(28, fewest, "30 each", () -> {
            Edge.is(1, Kit.walked().hires(0, 30));
            Edge.is(2, Kit.toAndFro(Kit.of(Kit.PAIR + "keep 60;"), 1).hires(0, 30));
            Edge.is(2, Kit.toAndFro(Kit.of(Kit.PAIR + "keep 31;"), 1).hires(0, 30));
            Edge.is(1, Kit.toAndFro(Kit.of(Kit.PAIR + "keep 30;"), 1).hires(0, 30));
        });
        Edge.edge(28, fewest, "just enough, one step too few", () -> {
            Edge.is(1, Kit.walked().hires(0, 4));
            Edge.is(2, Kit.walked().hires(0, 3));
            Edge.is(2, Kit.walked().hires(0, 2));
        });
        String many = "IllegalArgumentException: how many.";
        Edge.edge(28, many, "0", () -> Edge.refuses(Edge.ARGUMENT, Kit::walked, s -> s.hires(0, 0)));
        Edge.edge(28, many, "31", () -> Edge.refuses(Edge.ARGUMENT, Kit::walked, s -> s.hires(0, 31)));
        Edge.edge(28, many, "-1 and far off", () -> {
            Edge.refuses(Edge.ARGUMENT, Kit::walked, s -> s.hires(0, -1));
            Edge.refuses(Edge.ARGUMENT, Kit::walked, s -> s.hires(0, Integer.MAX_VALUE));
            Edge.refuses(Edge.ARGUMENT, Kit::walked, s -> s.hires(0, Integer.MIN_VALUE));
        });
        Edge.edge(28, many, "also where there is none", () -> Edge.refuses(Edge.ARGUMENT, PrintEdges::bare, s -> s.hires(0, 0)));
        String throwsOf = "hires(int w, int each) throws NoSuchElementException, IllegalArgumentException";
        Edge.edge(28, throwsOf, "no such walker", () -> {
            Edge.refuses(Edge.NO_SUCH, Kit::walked, s -> s.hires(2, 1));
            Edge.refuses(Edge.NO_SUCH, Kit::walked, s -> s.hires(-1, 1));
        });
        Edge.edge(28, throwsOf, "no such walker is told ahead of how many", () -> Edge.refuses(Edge.NO_SUCH, Kit::walked, s -> s.hires(2, 0)));
    }

    private static void wolves() {
        String many = "How many PRINTS WOLVES remember.";
        Edge.edge(29, many, "none", () -> {
            Edge.is(0, new SnowKeeps().wolves());
            Edge.is(0, bare().wolves());
        });
        Edge.edge(29, many, "one fewer than they may, as many, more", () -> {
            SnowKeeps s = Kit.toAndFro(Kit.of(Kit.PAIR + "wolves 4;"), 3);
            Edge.is(3, s.wolves());
            Kit.go(s, 0, 0);
            Edge.is(4, s.wolves());
            Kit.go(s, 0, 1);
            Edge.is(4, s.wolves());
        });
        Edge.edge(29, many, "neither noon nor storms nor KEEP take any", () -> {
            SnowKeeps s = Kit.walked();
            s.storm(2);
            s.keep(1);
            s.noon();
            Edge.is(5, s.wolves());
        });
    }

    private static void wolf() {
        String eldest = "Of the k-th one they remember (the eldest is 0), what 0: from, 1: to, 2: whose. NoSuchElementException: no such one";
        Edge.edge(30, eldest, "the eldest and the latest", () -> {
            SnowKeeps s = Kit.walkedOn(Kit.RING + "wolves 4;");
            Edge.is(2, s.wolf(0, 0));
            Edge.is(3, s.wolf(0, 1));
            Edge.is(1, s.wolf(0, 2));
            Edge.is(3, s.wolf(3, 0));
            Edge.is(0, s.wolf(3, 1));
            Edge.is(1, s.wolf(3, 2));
        });
        Edge.edge(30, eldest, "above the latest", () -> {
            Edge.refuses(Edge.NO_SUCH, Kit::walked, s -> s.wolf(5, 0));
            Edge.refuses(Edge.NO_SUCH, () -> Kit.walkedOn(Kit.RING + "wolves 4;"), s -> s.wolf(4, 0));
            Edge.refuses(Edge.NO_SUCH, Kit::walked, s -> s.wolf(Integer.MAX_VALUE, 0));
        });
        Edge.edge(30, eldest, "below 0", () -> {
            Edge.refuses(Edge.NO_SUCH, Kit::walked, s -> s.wolf(-1, 0));
            Edge.refuses(Edge.NO_SUCH, Kit::walked, s -> s.wolf(Integer.MIN_VALUE, 0));
        });
        Edge.edge(30, eldest, "none at first", () -> Edge.refuses(Edge.NO_SUCH, PrintEdges::bare, s -> s.wolf(0, 0)));
        Edge.edge(30, eldest, "the 99th of 99", () -> {
            SnowKeeps s = Kit.toAndFro(Kit.of(Kit.PAIR + "wolves 99;"), 150);
            Edge.is(1, s.wolf(98, 0));
            Edge.is(1, s.wolf(0, 0));
            Edge.refuses(Edge.NO_SUCH, () -> Kit.toAndFro(Kit.of(Kit.PAIR + "wolves 99;"), 150), t -> t.wolf(99, 0));
        });
        Edge.edge(30, eldest, "no such one is told ahead of another what", () -> Edge.refuses(Edge.NO_SUCH, Kit::walked, s -> s.wolf(5, 3)));
        String what = "IllegalArgumentException: another what.";
        Edge.edge(30, what, "3", () -> Edge.refuses(Edge.ARGUMENT, Kit::walked, s -> s.wolf(4, 3)));
        Edge.edge(30, what, "-1", () -> Edge.refuses(Edge.ARGUMENT, Kit::walked, s -> s.wolf(0, -1)));
    }
}
