/** Boundary cases of trays and images: promises 54 to 57, and what "Terms" says of them and of throws. */
final class TrayEdges {
    private TrayEdges() { }

    private static SnowKeeps laid() {
        SnowKeeps s = Kit.walked();
        Kit.fill(s, 0, 0, 0, 2);
        return s;
    }

    private static SnowKeeps imaged() {
        SnowKeeps s = Kit.walked();
        s.image(1);
        s.noon();
        return s;
    }

    private static long written(int sort, long v) {
        SnowKeeps s = new SnowKeeps();
        s.tray(0, sort, 1);
        return s.write(0, 0, v);
    }

    static void run() {
        tray();
        trayBounds();
        cut();
        write();
        writeBounds();
        image();
        restore();
        restoreBounds();
        throwing();
    }

    private static void tray() {
        String rows = "TRAYS 0 to 3 are MISSING at first, or rows of 0 to 30 numbers of 8 bits (sort 0), 16 (1), 32 (2), 64 (3).";
        Edge.edge(Edge.TERMS, rows, "each of four, missing at first", () -> {
            for (int t = 0; t < 4; t++) {
                int tray = t;
                Edge.refuses(Edge.STATE, SnowKeeps::new, s -> s.reads(tray));
                Edge.refuses(Edge.STATE, SnowKeeps::new, s -> s.write(tray, 0, 0));
            }
        });
        Edge.edge(Edge.TERMS, rows, "another plain leaves them as they are", () -> {
            SnowKeeps s = laid();
            Kit.tell(s, Kit.RING);
            Edge.is(1, s.pens(0));
        });
        Edge.edge(Edge.TERMS, rows, "each is its own", () -> {
            SnowKeeps s = Kit.of(Kit.RING);
            for (int t = 0; t < 4; t++) {
                s.tray(t, t, 1);
                s.write(t, 0, 2 * t);
            }
            for (int t = 0; t < 4; t++) {
                Edge.is(1 << t, s.pens(t));
            }
        });
        Edge.edge(Edge.TERMS, rows, "0 numbers are a row, not missing", () -> {
            SnowKeeps s = new SnowKeeps();
            s.tray(3, 3, 0);
            Edge.is(0, s.perform(3));
            Edge.is(0, s.reads(3));
        });
        Edge.edge(Edge.TERMS, rows, "30 numbers", () -> {
            SnowKeeps s = new SnowKeeps();
            s.tray(0, 1, 30);
            Edge.is(99, s.write(0, 29, 99));
            Edge.refuses(Edge.BOUNDS, () -> s, t -> t.write(0, 30, 99));
        });
        String zeros = "A TRAY is a row of so many 0s.";
        Edge.edge(54, zeros, "0s at first", () -> {
            SnowKeeps s = Kit.of(Kit.RING);
            s.tray(0, 3, 3);
            Edge.is(1, s.writes(0, 0));
        });
        Edge.edge(54, zeros, "0s again", () -> {
            SnowKeeps s = Kit.of(Kit.RING);
            Kit.fill(s, 0, 3, 4, 4);
            Edge.is(4, s.pens(0));
            s.tray(0, 3, 2);
            Edge.is(1, s.pens(0));
        });
        Edge.edge(54, zeros, "0s again behind a shorter row", () -> {
            SnowKeeps s = Kit.of(Kit.RING);
            Kit.fill(s, 0, 3, 4, 4, 4);
            s.tray(0, 3, 1);
            s.tray(0, 3, 3);
            Edge.is(1, s.pens(0));
        });
        Edge.edge(54, zeros, "fewer than there were", () -> {
            SnowKeeps s = laid();
            s.tray(0, 0, 0);
            Edge.is(0, s.patrol(0));
            Edge.refuses(Edge.BOUNDS, () -> s, t -> t.write(0, 0, 1));
        });
    }

    private static void trayBounds() {
        String wrong = "NoSuchElementException: no such TRAY; IllegalArgumentException: no such sort, or not so many.";
        Edge.edge(54, wrong, "no such tray", () -> {
            Edge.refuses(Edge.NO_SUCH, TrayEdges::laid, s -> s.tray(4, 0, 1));
            Edge.refuses(Edge.NO_SUCH, TrayEdges::laid, s -> s.tray(-1, 0, 1));
            Edge.refuses(Edge.NO_SUCH, TrayEdges::laid, s -> s.tray(Integer.MAX_VALUE, 0, 1));
            Edge.refuses(Edge.NO_SUCH, TrayEdges::laid, s -> s.tray(Integer.MIN_VALUE, 0, 1));
        });
        Edge.edge(54, wrong, "sort 4", () -> Edge.refuses(Edge.ARGUMENT, TrayEdges::laid, s -> s.tray(0, 4, 1)));
        Edge.edge(54, wrong, "sort below 0", () -> Edge.refuses(Edge.ARGUMENT, TrayEdges::laid, s -> s.tray(0, -1, 1)));
        Edge.edge(54, wrong, "31 numbers", () -> Edge.refuses(Edge.ARGUMENT, TrayEdges::laid, s -> s.tray(0, 0, 31)));
        Edge.edge(54, wrong, "-1 numbers", () -> Edge.refuses(Edge.ARGUMENT, TrayEdges::laid, s -> s.tray(0, 0, -1)));
        Edge.edge(54, wrong, "far off", () -> {
            Edge.refuses(Edge.ARGUMENT, TrayEdges::laid, s -> s.tray(0, Integer.MAX_VALUE, 1));
            Edge.refuses(Edge.ARGUMENT, TrayEdges::laid, s -> s.tray(0, 0, Integer.MAX_VALUE));
            Edge.refuses(Edge.ARGUMENT, TrayEdges::laid, s -> s.tray(0, 0, Integer.MIN_VALUE));
        });
        Edge.edge(54, wrong, "a missing tray stays missing", () -> {
            Edge.refuses(Edge.ARGUMENT, SnowKeeps::new, s -> s.tray(0, 4, 1));
            Edge.refuses(Edge.ARGUMENT, SnowKeeps::new, s -> s.tray(3, 0, 31));
        });
        Edge.edge(54, wrong, "no such tray is told first", () -> {
            Edge.refuses(Edge.NO_SUCH, TrayEdges::laid, s -> s.tray(4, 4, 1));
            Edge.refuses(Edge.NO_SUCH, TrayEdges::laid, s -> s.tray(4, 0, 31));
        });
        Edge.edge(54, wrong, "sort 3, 30 numbers", () -> {
            SnowKeeps s = new SnowKeeps();
            s.tray(3, 3, 30);
            Edge.is(Long.MIN_VALUE, s.write(3, 29, Long.MIN_VALUE));
        });
    }

    private static void cut() {
        String as = "A number comes to a place of a TRAY, cut to its sort: as it is there.";
        Edge.edge(55, as, "8 bits: what fits, the first that wraps around, each way", () -> {
            Edge.is(127, written(0, 127));
            Edge.is(-128, written(0, 128));
            Edge.is(-128, written(0, -128));
            Edge.is(127, written(0, -129));
            Edge.is(-1, written(0, 255));
            Edge.is(0, written(0, 256));
        });
        Edge.edge(55, as, "16 bits", () -> {
            Edge.is(32767, written(1, 32767));
            Edge.is(-32768, written(1, 32768));
            Edge.is(-32768, written(1, -32768));
            Edge.is(32767, written(1, -32769));
            Edge.is(-1, written(1, 65535));
            Edge.is(0, written(1, 65536));
        });
        Edge.edge(55, as, "32 bits", () -> {
            Edge.is(Integer.MAX_VALUE, written(2, Integer.MAX_VALUE));
            Edge.is(Integer.MIN_VALUE, written(2, 1L << 31));
            Edge.is(Integer.MIN_VALUE, written(2, Integer.MIN_VALUE));
            Edge.is(Integer.MAX_VALUE, written(2, Integer.MIN_VALUE - 1L));
            Edge.is(-1, written(2, (1L << 32) - 1));
            Edge.is(0, written(2, 1L << 32));
        });
        Edge.edge(55, as, "64 bits: nothing is cut", () -> {
            Edge.is(Long.MAX_VALUE, written(3, Long.MAX_VALUE));
            Edge.is(Long.MIN_VALUE, written(3, Long.MIN_VALUE));
            Edge.is((1L << 32) + 1, written(3, (1L << 32) + 1));
        });
        Edge.edge(55, as, "it is there so cut: 258 is way 2", () -> {
            SnowKeeps s = Kit.of(Kit.RING);
            s.tray(0, 0, 1);
            s.write(0, 0, 258);
            Edge.is(2, s.pens(0));
        });
    }

    private static void write() {
        String as = "A number comes to a place of a TRAY, cut to its sort: as it is there.";
        Edge.edge(55, as, "the first and the last place", () -> {
            SnowKeeps s = Kit.of(Kit.RING);
            Kit.fill(s, 0, 0, 0, 0, 0);
            Edge.is(2, s.write(0, 2, 2));
            Edge.is(2, s.writes(0, 0));
            Edge.is(2, s.write(0, 0, 2));
            Edge.is(2, s.writes(0, 0));
            Edge.is(2, s.write(0, 1, 2));
            Edge.is(1, s.writes(1, 0));
        });
        String wrong = "IllegalStateException: it is MISSING; IndexOutOfBoundsException: it has no such place.";
        Edge.edge(55, wrong, "it is missing", () -> Edge.refuses(Edge.STATE, TrayEdges::laid, s -> s.write(3, 0, 0)));
        Edge.edge(55, wrong, "one above the last place", () -> Edge.refuses(Edge.BOUNDS, TrayEdges::laid, s -> s.write(0, 2, 0)));
        Edge.edge(55, wrong, "below 0", () -> Edge.refuses(Edge.BOUNDS, TrayEdges::laid, s -> s.write(0, -1, 0)));
        Edge.edge(55, wrong, "far off", () -> {
            Edge.refuses(Edge.BOUNDS, TrayEdges::laid, s -> s.write(0, Integer.MAX_VALUE, 0));
            Edge.refuses(Edge.BOUNDS, TrayEdges::laid, s -> s.write(0, Integer.MIN_VALUE, 0));
        });
        Edge.edge(55, wrong, "a row of none", () -> {
            SnowKeeps s = new SnowKeeps();
            s.tray(0, 0, 0);
            Edge.refuses(Edge.BOUNDS, () -> s, t -> t.write(0, 0, 0));
        });
        Edge.edge(55, wrong, "missing is told ahead of no such place", () -> Edge.refuses(Edge.STATE, TrayEdges::laid, s -> s.write(3, 30, 0)));
    }

    private static void writeBounds() {
        String throwsOf = "write(int tray, int place, long v) throws NoSuchElementException, IllegalStateException, IndexOutOfBoundsException";
        Edge.edge(55, throwsOf, "no such tray", () -> {
            Edge.refuses(Edge.NO_SUCH, TrayEdges::laid, s -> s.write(4, 0, 0));
            Edge.refuses(Edge.NO_SUCH, TrayEdges::laid, s -> s.write(-1, 0, 0));
        });
        Edge.edge(55, throwsOf, "no such tray is told first", () -> Edge.refuses(Edge.NO_SUCH, TrayEdges::laid, s -> s.write(4, 30, 0)));
    }

    private static void image() {
        String wrong = "An IMAGE is made. NoSuchElementException: no such one.";
        Edge.edge(56, wrong, "0 and 2", () -> {
            SnowKeeps s = Kit.walked();
            s.image(0);
            s.storm(1);
            s.image(2);
            s.noon();
            s.restore(0);
            Edge.is(5, s.count(5));
            s.restore(2);
            Edge.is(4, s.count(5));
        });
        Edge.edge(56, wrong, "3, -1, far off", () -> {
            Edge.refuses(Edge.NO_SUCH, Kit::walked, s -> s.image(3));
            Edge.refuses(Edge.NO_SUCH, Kit::walked, s -> s.image(-1));
            Edge.refuses(Edge.NO_SUCH, Kit::walked, s -> s.image(Integer.MAX_VALUE));
            Edge.refuses(Edge.NO_SUCH, Kit::walked, s -> s.image(Integer.MIN_VALUE));
        });
        Edge.edge(56, wrong, "a second one takes the place of the first", () -> {
            SnowKeeps s = imaged();
            s.image(1);
            Kit.go(s, 0, 2);
            s.restore(1);
            Edge.is(0, s.count(5));
        });
        Edge.edge(56, wrong, "without a plain", () -> {
            SnowKeeps s = new SnowKeeps();
            s.image(0);
            Kit.tell(s, Kit.RING);
            s.restore(0);
            Edge.is(0, s.count(1));
            Edge.is(20, s.count(4));
        });
    }

    private static void restore() {
        String all = "IMAGES 0 to 2: all but the tape, the FAULT and TRAYS, as it was (none at first).";
        Edge.edge(Edge.TERMS, all, "all of the snow and the plain", () -> {
            SnowKeeps s = Kit.of(Kit.PAIR + "storm 9 2;wolves 7;walker 1 beat 0 1 0;");
            s.rounds(4);
            s.keep(6);
            String before = Kit.lookAtSnow(s);
            s.image(0);
            Kit.tell(s, Kit.RING);
            Kit.go(s, 0, 1);
            s.restore(0);
            Edge.same(before, Kit.lookAtSnow(s));
        });
        Edge.edge(Edge.TERMS, all, "all four walkers, all that 99 wolves remember", () -> {
            String text = "places 4;path 0 1;path 1 2;path 2 3;path 3 0;wolves 99;storm 7 1;walker 0 beat 1 2 3;walker 1 beat 2 1;"
                + "walker 2 beat 3 0 1 0 3 2 3;walker 3 beat 0 1 2 3 2;";
            SnowKeeps as = Kit.of(text);
            as.rounds(40);
            SnowKeeps s = Kit.of(text);
            s.rounds(40);
            s.image(2);
            s.rounds(9);
            Kit.go(s, 0, (s.walker(0, 0) + 1) % 4);
            s.restore(2);
            Edge.same(Kit.lookAtSnow(as), Kit.lookAtSnow(s));
        });
        Edge.edge(Edge.TERMS, all, "but the tape", () -> {
            SnowKeeps s = imaged();
            Kit.feed(s, "places 3;");
            s.restore(1);
            Edge.is(20, s.count(7));
            Edge.is(1, s.plain(9));
        });
        Edge.edge(Edge.TERMS, all, "but the fault", () -> {
            SnowKeeps s = imaged();
            Kit.tell(s, "places 0;");
            s.restore(1);
            Edge.is(3, s.fault(0));
            Edge.is(7, s.fault(1));
        });
        Edge.edge(Edge.TERMS, all, "but the trays", () -> {
            SnowKeeps s = Kit.walked();
            Kit.fill(s, 0, 0, 0);
            s.image(0);
            s.write(0, 0, 4);
            s.tray(1, 0, 0);
            s.restore(0);
            Edge.is(4, s.pens(0));
            Edge.is(0, s.patrol(1));
        });
        Edge.edge(Edge.TERMS, all, "it stays as it was, again and again", () -> {
            SnowKeeps s = imaged();
            for (int i = 0; i < 3; i++) {
                s.restore(1);
                Edge.is(5, s.count(5));
                Edge.is(5, s.count(6));
                Kit.go(s, 0, 2);
                s.keep(1);
            }
        });
        Edge.edge(Edge.TERMS, all, "another plain leaves it", () -> {
            SnowKeeps s = imaged();
            Kit.tell(s, "places 1;");
            s.restore(1);
            Edge.is(4, s.count(1));
            Edge.is(5, s.count(5));
        });
        Edge.edge(Edge.TERMS, all, "none at first", () -> {
            for (int i = 0; i < 3; i++) {
                int image = i;
                Edge.refuses(Edge.STATE, Kit::walked, s -> s.restore(image));
            }
        });
    }

    private static void restoreBounds() {
        String wrong = "All is as in an IMAGE. NoSuchElementException: no such one; IllegalStateException: none was made.";
        Edge.edge(57, wrong, "3, -1, far off", () -> {
            Edge.refuses(Edge.NO_SUCH, TrayEdges::imaged, s -> s.restore(3));
            Edge.refuses(Edge.NO_SUCH, TrayEdges::imaged, s -> s.restore(-1));
            Edge.refuses(Edge.NO_SUCH, TrayEdges::imaged, s -> s.restore(Integer.MAX_VALUE));
            Edge.refuses(Edge.NO_SUCH, TrayEdges::imaged, s -> s.restore(Integer.MIN_VALUE));
        });
        Edge.edge(57, wrong, "none was made, though another one was", () -> {
            Edge.refuses(Edge.STATE, TrayEdges::imaged, s -> s.restore(0));
            Edge.refuses(Edge.STATE, TrayEdges::imaged, s -> s.restore(2));
        });
        Edge.edge(57, wrong, "the one that was made", () -> {
            SnowKeeps s = imaged();
            s.restore(1);
            Edge.is(5, s.count(5));
        });
    }

    private static void throwing() {
        String first = "Of several throws of a call that one comes that is told first.";
        Edge.edge(Edge.TERMS, first, "a tray that is none ahead of a place that is none: one exception", () ->
            Edge.refuses(Edge.NO_SUCH, TrayEdges::laid, s -> s.behind(4, 4, 4)));
        Edge.edge(Edge.TERMS, first, "an element ahead of a state ahead of an argument", () -> {
            Edge.refuses(Edge.NO_SUCH, TrayEdges::laid, s -> s.judge(9, 9));
            Edge.refuses(Edge.STATE, TrayEdges::laid, s -> s.judge(2, 9));
            Edge.refuses(Edge.NO_SUCH, TrayEdges::laid, s -> s.writes(9, 2));
        });
        Edge.edge(Edge.TERMS, first, "but of a day the argument ahead of the state", () ->
            Edge.refuses(Edge.ARGUMENT, () -> Kit.of("places 2;"), s -> s.day(0, 0)));
        String nothing = "A call that throws changes nothing.";
        Edge.edge(Edge.TERMS, nothing, "a tray that is laid badly keeps its numbers", () -> {
            SnowKeeps s = laid();
            for (int i = 0; i < 2; i++) {
                try {
                    s.tray(0, i == 0 ? 4 : 0, i == 0 ? 1 : 31);
                } catch (IllegalArgumentException e) {
                    Edge.is(2, s.writes(0, 0));
                    Edge.is(5, s.write(0, 1, 261));
                    s.write(0, 1, 2);
                }
            }
        });
        Edge.edge(Edge.TERMS, nothing, "a restore() of none leaves the images that are made", () -> {
            SnowKeeps s = imaged();
            try {
                s.restore(0);
                Edge.is(1, 0);
            } catch (IllegalStateException e) {
                s.restore(1);
                Edge.is(5, s.count(5));
            }
        });
    }
}
