/** Boundary cases of who follows: promises 31 to 39, and what "Terms" says of them. */
final class FollowEdges {
    private FollowEdges() { }

    /** A hunter's ring of eight; wolves remember a way round that is one step longer, by place 8. */
    private static final String LONG_HUNT = "places 9;path 0 1;path 1 2;path 2 3;path 3 4;path 4 5;path 5 6;path 6 7;path 7 0;path 0 8;path 8 1;"
        + "walker 0 beat 8 1 2 3 4 5 6 7;keep 8;";

    private static final String STAR = "places 3;path 0 1;path 0 2;walker 0;";

    private static SnowKeeps bare() {
        return Kit.of(Kit.RING);
    }

    static void run() {
        hound();
        hunter();
        hunts();
        meets();
        blur();
        blurTies();
        blurBounds();
        homes();
        homesBounds();
        bargain();
        bargainBounds();
        retrace();
        retraceBounds();
        goesBack();
    }

    private static void hound() {
        String till = "3. A HOUND at a PLACE takes the eldest kept PRINT that leaves it, goes on from where that leads with the eldest "
            + "that leaves there and is younger than the one taken last, and so on, till there is none.";
        Edge.edge(Edge.TERMS, till, "there is none at first", () -> {
            Edge.is(0, bare().hound(2, 0));
            Edge.is(2, bare().hound(2, 1));
        });
        Edge.edge(Edge.TERMS, till, "an elder one is none", () -> {
            SnowKeeps s = Kit.go(Kit.of("places 3;path 0 1;path 1 2;walker 1;walker 0;"), 0, 2, 1, 1);
            Edge.is(1, s.hound(0, 0));
            Edge.is(1, s.hound(0, 1));
        });
        Edge.edge(Edge.TERMS, till, "the eldest of two, though the later leads on", () -> {
            SnowKeeps s = Kit.go(Kit.of("places 4;path 0 1;path 0 2;path 2 3;walker 0;walker 0;"), 0, 1, 1, 2, 1, 3);
            Edge.is(1, s.hound(0, 0));
            Edge.is(1, s.hound(0, 1));
        });
        Edge.edge(Edge.TERMS, till, "one that is not kept is none", () -> {
            SnowKeeps s = Kit.walked();
            s.storm(1);
            Edge.is(0, s.hound(0, 0));
        });
        Edge.edge(Edge.TERMS, till, "all of 60, the latest too", () -> {
            SnowKeeps s = Kit.toAndFro(Kit.of(Kit.PAIR + "keep 60;"), 60);
            Edge.is(60, s.hound(0, 0));
            Edge.is(0, s.hound(0, 1));
            Edge.is(59, s.hound(1, 0));
        });
        String what = "IllegalArgumentException: another what.";
        Edge.edge(31, what, "2", () -> Edge.refuses(Edge.ARGUMENT, Kit::walked, s -> s.hound(0, 2)));
        Edge.edge(31, what, "-1", () -> Edge.refuses(Edge.ARGUMENT, Kit::walked, s -> s.hound(0, -1)));
        String throwsOf = "hound(int p, int what) throws NoSuchElementException, IllegalArgumentException";
        Edge.edge(31, throwsOf, "no such place", () -> {
            Edge.refuses(Edge.NO_SUCH, Kit::walked, s -> s.hound(4, 0));
            Edge.refuses(Edge.NO_SUCH, Kit::walked, s -> s.hound(-1, 0));
        });
        Edge.edge(31, throwsOf, "no such place is told first", () -> Edge.refuses(Edge.NO_SUCH, Kit::walked, s -> s.hound(4, 2)));
    }

    private static void hunter() {
        String bits = "PLACES where a HUNTER may be behind n STEPS, as bits (0: he can't make so many). IllegalArgumentException: n isn't 0 to 60.";
        Edge.edge(32, bits, "0 steps", () -> {
            Edge.is(4, bare().hunter(2, 0));
            Edge.is(8, Kit.walked().hunter(3, 0));
        });
        Edge.edge(32, bits, "he can't make one", () -> Edge.is(0, bare().hunter(2, 1)));
        Edge.edge(32, bits, "he can make two, not three", () -> {
            SnowKeeps s = Kit.go(Kit.of("places 3;path 0 1;path 1 2;walker 0;"), 0, 1, 0, 2);
            Edge.is(4, s.hunter(0, 2));
            Edge.is(0, s.hunter(0, 3));
            Edge.is(0, s.hunter(0, 60));
        });
        Edge.edge(32, bits, "60 steps round a ring of seven", () -> {
            SnowKeeps s = Kit.of("places 7;path 0 1;path 1 2;path 2 3;path 3 4;path 4 5;path 5 6;path 6 0;walker 0 beat 1 2 3 4 5 6 0;");
            s.rounds(7);
            Edge.is(1 << 60 % 7, s.hunter(0, 60));
            Edge.is(1 << 59 % 7, s.hunter(0, 59));
        });
        Edge.edge(32, bits, "any of several, whatever their age", () -> {
            SnowKeeps s = Kit.go(Kit.of("places 4;path 0 1;path 1 2;path 0 3;walker 1;walker 0;walker 0;"), 0, 2, 1, 1, 2, 3);
            Edge.is(10, s.hunter(0, 1));
            Edge.is(4, s.hunter(0, 2));
        });
        Edge.edge(32, bits, "61", () -> Edge.refuses(Edge.ARGUMENT, Kit::walked, s -> s.hunter(0, 61)));
        Edge.edge(32, bits, "below 0", () -> Edge.refuses(Edge.ARGUMENT, Kit::walked, s -> s.hunter(0, -1)));
        Edge.edge(32, bits, "far off", () -> {
            Edge.refuses(Edge.ARGUMENT, Kit::walked, s -> s.hunter(0, Integer.MAX_VALUE));
            Edge.refuses(Edge.ARGUMENT, Kit::walked, s -> s.hunter(0, Integer.MIN_VALUE));
        });
        String throwsOf = "hunter(int p, int n) throws NoSuchElementException, IllegalArgumentException";
        Edge.edge(32, throwsOf, "no such place", () -> {
            Edge.refuses(Edge.NO_SUCH, Kit::walked, s -> s.hunter(4, 0));
            Edge.refuses(Edge.NO_SUCH, Kit::walked, s -> s.hunter(-1, 0));
        });
        Edge.edge(32, throwsOf, "no such place is told first", () -> Edge.refuses(Edge.NO_SUCH, Kit::walked, s -> s.hunter(4, 61)));
        Edge.edge(Edge.TERMS, "A HUNTER can't tell ages: he goes along PRINTS, any that leave the PLACE where he is.",
            "the elder one behind the later one, one print again and again", () -> {
                SnowKeeps s = Kit.go(Kit.of("places 2;path 0 1;walker 1;walker 0;"), 0, 0, 1, 1);
                Edge.is(1, s.hunter(0, 2));
                Edge.is(2, s.hunter(0, 59));
            });
    }

    private static void hunts() {
        String fewest = "The fewest STEPS by which a HUNTER may come from a PLACE to another one; NONE: he can't.";
        Edge.edge(33, fewest, "to where he is", () -> Edge.is(0, bare().hunts(3, 3)));
        Edge.edge(33, fewest, "he can't", () -> {
            Edge.is(-1, bare().hunts(0, 1));
            Edge.is(-1, Kit.go(bare(), 0, 1).hunts(1, 0));
        });
        Edge.edge(33, fewest, "nine, through all places", () -> {
            SnowKeeps s = Kit.of("places 10;path 0 1;path 1 2;path 2 3;path 3 4;path 4 5;path 5 6;path 6 7;path 7 8;path 8 9;walker 0;");
            Kit.go(s, 0, 1, 0, 2, 0, 3, 0, 4, 0, 5, 0, 6, 0, 7, 0, 8, 0, 9);
            Edge.is(9, s.hunts(0, 9));
            Edge.is(-1, s.hunts(9, 0));
            s.storm(1);
            Edge.is(-1, s.hunts(0, 9));
            Edge.is(8, s.hunts(1, 9));
        });
        String throwsOf = "hunts(int p, int q) throws NoSuchElementException";
        Edge.edge(33, throwsOf, "no such first place", () -> {
            Edge.refuses(Edge.NO_SUCH, Kit::walked, s -> s.hunts(4, 0));
            Edge.refuses(Edge.NO_SUCH, Kit::walked, s -> s.hunts(-1, 0));
        });
        Edge.edge(33, throwsOf, "no such second place", () -> {
            Edge.refuses(Edge.NO_SUCH, Kit::walked, s -> s.hunts(0, 4));
            Edge.refuses(Edge.NO_SUCH, Kit::walked, s -> s.hunts(0, -1));
        });
    }

    private static SnowKeeps longHunt() {
        SnowKeeps s = Kit.of(LONG_HUNT);
        s.rounds(8);
        return Kit.go(s, 0, 0, 0, 1);
    }

    private static void meets() {
        String fewest = "The fewest STEPS (0 to 60) behind which a HUNTER from a PLACE and a WOLF from another one (who goes along what "
            + "WOLVES remember, any), each having made as many, may be at one PLACE; NONE.";
        Edge.edge(34, fewest, "at once", () -> Edge.is(0, bare().meets(1, 1)));
        Edge.edge(34, fewest, "neither can go", () -> Edge.is(-1, bare().meets(0, 1)));
        Edge.edge(34, fewest, "one of both can't make so many", () -> {
            SnowKeeps s = Kit.go(Kit.of("places 3;path 0 1;path 1 2;walker 0;"), 0, 1, 0, 2);
            Edge.is(-1, s.meets(2, 1));
            Edge.is(-1, s.meets(1, 2));
        });
        // the wolf is seven places ahead and loses one each time that it goes by place 8: seven times by nine steps
        Edge.edge(34, fewest, "60 steps are the most", () -> Edge.is(60, longHunt().meets(5, 4)));
        Edge.edge(34, fewest, "61 are too many", () -> Edge.is(-1, longHunt().meets(4, 3)));
        Edge.edge(34, fewest, "59", () -> Edge.is(59, longHunt().meets(6, 5)));
        Edge.edge(34, fewest, "what only wolves remember", () -> {
            SnowKeeps s = Kit.go(Kit.of("places 3;path 0 1;path 2 1;walker 0;walker 2;"), 0, 1);
            s.noon();
            Kit.go(s, 1, 1);
            Edge.is(1, s.meets(2, 0));
            Edge.is(-1, s.meets(0, 2));
        });
        Edge.edge(34, fewest, "neither can go any more, on another plain", () -> {
            SnowKeeps s = Kit.go(Kit.of("places 3;path 0 1;path 1 2;walker 0;walker 2;"), 0, 1, 1, 1);
            Edge.is(1, s.meets(0, 2));
            Kit.tell(s, "places 3;path 0 1;path 1 2;walker 0;walker 2;");
            Kit.go(s, 0, 1);
            Edge.is(-1, s.meets(0, 2));
            Edge.is(-1, s.meets(0, 1));
            Kit.tell(s, "places 3;path 0 1;path 1 2;walker 0;walker 2;");
            Kit.go(s, 1, 1);
            Edge.is(-1, s.meets(0, 2));
        });
        Edge.edge(34, fewest, "wolves forget what the snow keeps", () -> {
            SnowKeeps s = Kit.go(Kit.of("places 3;path 0 1;path 2 1;walker 0;walker 2;wolves 1;"), 0, 1, 1, 1);
            Edge.is(1, s.meets(0, 2));
            Edge.is(-1, s.meets(2, 0));
        });
        String throwsOf = "meets(int hunter, int wolf) throws NoSuchElementException";
        Edge.edge(34, throwsOf, "no such first place", () -> {
            Edge.refuses(Edge.NO_SUCH, Kit::walked, s -> s.meets(4, 0));
            Edge.refuses(Edge.NO_SUCH, Kit::walked, s -> s.meets(-1, 0));
        });
        Edge.edge(34, throwsOf, "no such second place", () -> {
            Edge.refuses(Edge.NO_SUCH, Kit::walked, s -> s.meets(0, 4));
            Edge.refuses(Edge.NO_SUCH, Kit::walked, s -> s.meets(0, -1));
        });
    }

    private static final String BLUR = "BLUR of n (0 to 3): of all rows of at most n STEPS of a WALKER from where it is (the snow keeping as ever) "
        + "that behind which a HUNTER from where it was may be, n STEPS on, at the most PLACES; of like ones the fewest STEPS, "
        + "then the first by PLACES.";

    /** Answers of blur: PLACES, STEPS, each STEP's PLACE. */
    private static void blurIs(SnowKeeps s, int w, int n, int places, int... row) {
        Edge.is(places, s.blur(w, n, 0));
        Edge.is(row.length, s.blur(w, n, 1));
        for (int k = 0; k < 3; k++) {
            Edge.is(k < row.length ? row[k] : -1, s.blur(w, n, 10 + k));
        }
    }

    private static void blur() {
        Edge.edge(Edge.TERMS, BLUR, "n of 0: no step, one place", () -> {
            blurIs(bare(), 0, 0, 1);
            blurIs(Kit.walked(), 1, 0, 1);
        });
        Edge.edge(Edge.TERMS, BLUR, "n of 3: all three steps", () -> blurIs(Kit.of(STAR), 0, 3, 2, 1, 0, 2));
        Edge.edge(Edge.TERMS, BLUR, "where no step can be", () -> blurIs(Kit.of("places 2;walker 0;"), 0, 3, 0));
        Edge.edge(Edge.TERMS, BLUR, "the hunter makes n steps, whatever the row has", () -> {
            // one step more than none: 0>1, and the hunter can't go on from 1
            SnowKeeps s = Kit.of("places 3;path 0 1;path 1 2;walker 0;");
            blurIs(s, 0, 1, 1, 1);
            blurIs(s, 0, 2, 1, 1, 0);
        });
        Edge.edge(Edge.TERMS, BLUR, "a print that its steps make go leads no hunter", () -> {
            SnowKeeps s = Kit.go(Kit.of(STAR + "keep 2;"), 0, 1, 0, 0);
            blurIs(s, 0, 1, 1);
            s.keep(3);
            blurIs(s, 0, 1, 2, 2);
        });
        Edge.edge(Edge.TERMS, BLUR, "a KEEP below the row: its own first steps go", () ->
            blurIs(Kit.of("places 4;path 0 1;path 0 2;path 2 3;walker 0;keep 1;"), 0, 2, 0));
    }

    private static void blurTies() {
        Edge.edge(Edge.TERMS, BLUR, "of like ones the fewest steps: none", () -> {
            SnowKeeps s = Kit.go(Kit.of("places 2;path 0 1;walker 0;"), 0, 1, 0, 0);
            blurIs(s, 0, 1, 1);
            blurIs(s, 0, 3, 1);
        });
        Edge.edge(Edge.TERMS, BLUR, "of like ones the fewest steps, though a longer row comes first by places", () -> {
            // 3 leads on to 0 and 4 already, so one step there blurs as much as two by 1, which leads on to 5 alone
            SnowKeeps s = Kit.of("places 6;path 0 1;path 0 3;path 3 4;path 1 5;walker 3;walker 3;walker 1;walker 0;");
            Kit.go(s, 0, 0, 1, 4, 2, 5);
            blurIs(s, 3, 2, 2, 3);
        });
        Edge.edge(Edge.TERMS, BLUR, "then the first by places", () -> blurIs(Kit.of("places 4;path 0 3;path 0 2;path 0 1;walker 0;"), 0, 1, 1, 1));
        Edge.edge(Edge.TERMS, BLUR, "the first by places at the second step", () ->
            blurIs(Kit.of("places 4;path 1 3;path 1 2;path 0 1;walker 0;keep 2;"), 0, 2, 1, 1, 0));
    }

    private static void blurBounds() {
        String what = "BLUR, what 0: how many PLACES, 1: STEPS, 10 + k: the PLACE of STEP k (NONE: not so many).";
        Edge.edge(35, what, "each step of three, asked first", () -> {
            Edge.is(1, Kit.of(STAR).blur(0, 3, 10));
            Edge.is(0, Kit.of(STAR).blur(0, 3, 11));
            Edge.is(2, Kit.of(STAR).blur(0, 3, 12));
        });
        Edge.edge(35, what, "not so many", () -> {
            SnowKeeps s = bare();
            Edge.is(-1, s.blur(0, 0, 10));
            Edge.is(-1, s.blur(0, 0, 12));
            Edge.is(1, s.blur(0, 1, 10));
            Edge.is(-1, s.blur(0, 1, 11));
        });
        Edge.edge(35, what, "the longer one asked ahead leaves nothing", () -> {
            SnowKeeps s = Kit.of(STAR);
            s.blur(0, 3, 0);
            Edge.is(-1, s.blur(0, 0, 10));
            Edge.is(-1, s.blur(0, 1, 12));
        });
        Edge.edge(35, what, "as if: nothing changes", () -> {
            SnowKeeps s = Kit.walked();
            String before = Kit.look(s);
            s.blur(0, 3, 0);
            Edge.same(before, Kit.look(s));
        });
        String wrong = "IllegalArgumentException: n, another what (10 to 12).";
        Edge.edge(35, wrong, "n of 4, of -1, far off", () -> {
            Edge.refuses(Edge.ARGUMENT, Kit::walked, s -> s.blur(0, 4, 0));
            Edge.refuses(Edge.ARGUMENT, Kit::walked, s -> s.blur(0, -1, 0));
            Edge.refuses(Edge.ARGUMENT, Kit::walked, s -> s.blur(0, Integer.MAX_VALUE, 0));
            Edge.refuses(Edge.ARGUMENT, Kit::walked, s -> s.blur(0, Integer.MIN_VALUE, 0));
        });
        Edge.edge(35, wrong, "9 and 13", () -> {
            Edge.refuses(Edge.ARGUMENT, Kit::walked, s -> s.blur(0, 3, 9));
            Edge.refuses(Edge.ARGUMENT, Kit::walked, s -> s.blur(0, 3, 13));
        });
        Edge.edge(35, wrong, "2 and -1", () -> {
            Edge.refuses(Edge.ARGUMENT, Kit::walked, s -> s.blur(0, 1, 2));
            Edge.refuses(Edge.ARGUMENT, Kit::walked, s -> s.blur(0, 1, -1));
        });
        String throwsOf = "blur(int w, int n, int what) throws NoSuchElementException, IllegalArgumentException";
        Edge.edge(35, throwsOf, "no such walker", () -> {
            Edge.refuses(Edge.NO_SUCH, Kit::walked, s -> s.blur(2, 0, 0));
            Edge.refuses(Edge.NO_SUCH, Kit::walked, s -> s.blur(-1, 0, 0));
        });
        Edge.edge(35, throwsOf, "no such walker is told first", () -> {
            Edge.refuses(Edge.NO_SUCH, Kit::walked, s -> s.blur(2, 4, 0));
            Edge.refuses(Edge.NO_SUCH, Kit::walked, s -> s.blur(2, 0, 13));
        });
    }

    private static SnowKeeps keeping(int keep) {
        SnowKeeps s = new SnowKeeps();
        s.keep(keep);
        return s;
    }

    private static void homes() {
        String still = "each must still be kept when it is gone back over (asked ahead of that STEP, which leaves a PRINT, too).";
        Edge.edge(Edge.TERMS, still, "asked ahead of that step: one out with KEEP 1", () -> Edge.is(1, keeping(1).homes(1, 0)));
        // out d, back d: ahead of the last step back 2 d - 1 prints came from the first one on
        Edge.edge(Edge.TERMS, still, "that step leaves a print, too", () -> {
            for (int keep = 1; keep <= 60; keep++) {
                Edge.is((keep + 1) / 2, keeping(keep).homes(1, 0));
            }
        });
        Edge.edge(Edge.TERMS, still, "the first of four still there, gone by one", () -> {
            Edge.is(1, keeping(4).homes(4, 0));
            Edge.is(0, keeping(3).homes(4, 0));
        });
        // two by turns: ahead of each one's last step back 2 (2 d - 1) prints came
        Edge.edge(Edge.TERMS, still, "two by turns", () -> {
            Edge.is(1, keeping(2).homes(2, 0));
            Edge.is(0, keeping(1).homes(2, 0));
            Edge.is(1, keeping(5).homes(2, 0));
            Edge.is(2, keeping(6).homes(2, 0));
        });
        String far = "How far (0 to 60 STEPS) so many GUIDES (1 to 4) may all go out, and less far as well, and come home, if others make so "
            + "many STEPS (0 to 9) behind each turn.";
        Edge.edge(36, far, "0: not even one step", () -> {
            Edge.is(0, keeping(3).homes(4, 0));
            Edge.is(0, keeping(9).homes(1, 9));
        });
        Edge.edge(36, far, "with 9 others just one step, then two", () -> {
            Edge.is(1, keeping(10).homes(1, 9));
            Edge.is(1, keeping(29).homes(1, 9));
            Edge.is(2, keeping(30).homes(1, 9));
        });
        Edge.edge(36, far, "1 other behind each turn, not behind each guide", () -> {
            Edge.is(0, keeping(2).homes(2, 1));
            Edge.is(1, keeping(3).homes(2, 1));
            Edge.is(1, keeping(8).homes(2, 1));
            Edge.is(2, keeping(9).homes(2, 1));
        });
        Edge.edge(36, far, "the most that KEEP of 60 allows", () -> {
            Edge.is(30, keeping(60).homes(1, 0));
            Edge.is(8, keeping(60).homes(4, 0));
        });
        String fresh = "GUIDES go by turns on fresh snow, each one STEP a turn, each by PRINTS of its own";
        Edge.edge(Edge.TERMS, fresh, "prints that are there don't matter", () -> {
            SnowKeeps s = Kit.walked();
            Edge.is(3, s.homes(1, 0));
            Kit.fill(s, 0, 0, 3);
            Edge.is(1, s.bargain(0));
        });
        Edge.edge(Edge.TERMS, fresh, "nor whether there is a plain", () -> Edge.is(10, new SnowKeeps().homes(1, 0)));
    }

    private static void homesBounds() {
        String wrong = "IllegalArgumentException: GUIDES, STEPS.";
        Edge.edge(36, wrong, "no guides, five, far off", () -> {
            Edge.refuses(Edge.ARGUMENT, Kit::walked, s -> s.homes(0, 0));
            Edge.refuses(Edge.ARGUMENT, Kit::walked, s -> s.homes(5, 0));
            Edge.refuses(Edge.ARGUMENT, Kit::walked, s -> s.homes(-1, 0));
            Edge.refuses(Edge.ARGUMENT, Kit::walked, s -> s.homes(Integer.MAX_VALUE, 0));
            Edge.refuses(Edge.ARGUMENT, Kit::walked, s -> s.homes(Integer.MIN_VALUE, 0));
        });
        Edge.edge(36, wrong, "others below 0, ten, far off", () -> {
            Edge.refuses(Edge.ARGUMENT, Kit::walked, s -> s.homes(1, -1));
            Edge.refuses(Edge.ARGUMENT, Kit::walked, s -> s.homes(1, 10));
            Edge.refuses(Edge.ARGUMENT, Kit::walked, s -> s.homes(1, Integer.MAX_VALUE));
            Edge.refuses(Edge.ARGUMENT, Kit::walked, s -> s.homes(1, Integer.MIN_VALUE));
        });
        Edge.edge(36, wrong, "both", () -> Edge.refuses(Edge.ARGUMENT, Kit::walked, s -> s.homes(5, 10)));
    }

    private static SnowKeeps bargaining(int keep, long... far) {
        SnowKeeps s = keeping(keep);
        Kit.fill(s, 0, 1, far);
        return s;
    }

    private static void bargain() {
        String waits = "BARGAIN in a TRAY (1 to 4 numbers 0 to 30: how far each goes out; who is out waits for others, who is home, too): the set "
            + "of GUIDES, alone there, all of whom come home: with the most GUIDES, of like ones with the most STEPS out together, of "
            + "like ones the least as bits.";
        Edge.edge(Edge.TERMS, waits, "one number, 0", () -> Edge.is(1, bargaining(1, 0).bargain(0)));
        Edge.edge(Edge.TERMS, waits, "30 steps out, with KEEP 59 and 58", () -> {
            Edge.is(1, bargaining(59, 30).bargain(0));
            Edge.is(0, bargaining(58, 30).bargain(0));
        });
        Edge.edge(Edge.TERMS, waits, "four numbers, all of them", () -> {
            Edge.is(15, bargaining(4, 1, 1, 1, 1).bargain(0));
            Edge.is(15, bargaining(1, 0, 0, 0, 0).bargain(0));
        });
        // out a1 b1 b2, back a1 b2 b1: ahead of the last 5 prints, b1 is the second of them
        Edge.edge(Edge.TERMS, waits, "who is out waits, who is home, too: they leave no prints", () -> {
            Edge.is(3, bargaining(4, 1, 2).bargain(0));
            Edge.is(2, bargaining(3, 1, 2).bargain(0));
        });
        Edge.edge(Edge.TERMS, waits, "none of them comes home", () -> Edge.is(0, bargaining(1, 2, 2, 2, 2).bargain(0)));
        Edge.edge(Edge.TERMS, waits, "the most guides ahead of the most steps", () ->
            Edge.is(6, bargaining(3, 2, 1, 1).bargain(0)));
        Edge.edge(Edge.TERMS, waits, "of like ones the most steps", () -> {
            Edge.is(2, bargaining(5, 2, 3).bargain(0));
            Edge.is(5, bargaining(6, 1, 2, 3).bargain(0));
            Edge.is(3, bargaining(7, 3, 1, 2).bargain(0));
        });
        Edge.edge(Edge.TERMS, waits, "of like ones the least as bits", () -> {
            Edge.is(1, bargaining(5, 3, 3).bargain(0));
            Edge.is(3, bargaining(2, 1, 1, 1).bargain(0));
        });
        Edge.edge(Edge.TERMS, waits, "alone there: who does not come leaves no prints", () -> Edge.is(1, bargaining(5, 3, 9, 9, 9).bargain(0)));
        Edge.edge(Edge.TERMS, waits, "who stays at home is one, too", () -> Edge.is(11, bargaining(5, 0, 0, 9, 0).bargain(0)));
    }

    private static void bargainBounds() {
        String wrong = "NoSuchElementException: no such TRAY; IllegalStateException: it is MISSING; IllegalArgumentException: not 1 to 4 numbers, "
            + "one isn't 0 to 30.";
        Edge.edge(37, wrong, "no such tray", () -> {
            Edge.refuses(Edge.NO_SUCH, Kit::walked, s -> s.bargain(4));
            Edge.refuses(Edge.NO_SUCH, Kit::walked, s -> s.bargain(-1));
        });
        Edge.edge(37, wrong, "it is missing", () -> Edge.refuses(Edge.STATE, Kit::walked, s -> s.bargain(3)));
        Edge.edge(37, wrong, "no numbers", () -> Edge.refuses(Edge.ARGUMENT, () -> bargaining(5), s -> s.bargain(0)));
        Edge.edge(37, wrong, "five numbers", () -> Edge.refuses(Edge.ARGUMENT, () -> bargaining(5, 1, 1, 1, 1, 1), s -> s.bargain(0)));
        Edge.edge(37, wrong, "thirty numbers", () -> Edge.refuses(Edge.ARGUMENT, () -> bargaining(5, new long[30]), s -> s.bargain(0)));
        Edge.edge(37, wrong, "31, the first and the last", () -> {
            Edge.refuses(Edge.ARGUMENT, () -> bargaining(60, 31), s -> s.bargain(0));
            Edge.refuses(Edge.ARGUMENT, () -> bargaining(60, 0, 0, 0, 31), s -> s.bargain(0));
        });
        Edge.edge(37, wrong, "below 0, the first and the last", () -> {
            Edge.refuses(Edge.ARGUMENT, () -> bargaining(60, -1), s -> s.bargain(0));
            Edge.refuses(Edge.ARGUMENT, () -> bargaining(60, 0, 0, 0, -1), s -> s.bargain(0));
        });
        Edge.edge(37, wrong, "far off, which as an int would be 1", () -> Edge.refuses(Edge.ARGUMENT, () -> {
            SnowKeeps s = new SnowKeeps();
            Kit.fill(s, 0, 3, (1L << 32) + 1);
            return s;
        }, s -> s.bargain(0)));
    }

    private static void retrace() {
        String as = "RETRACE: a WALKER goes back over its own latest PRINT that is kept and not yet gone back over (those it leaves by going back "
            + "aside), as long as that one is kept; each STEP back leaves a PRINT, too.";
        Edge.edge(Edge.TERMS, as, "no print of its own", () -> {
            SnowKeeps s = Kit.go(bare(), 1, 3);
            Edge.is(0, s.retrace(0, 0));
            Edge.is(0, s.retrace(0, 1));
        });
        Edge.edge(Edge.TERMS, as, "all of its prints, not those by going back", () -> {
            SnowKeeps s = Kit.toAndFro(Kit.of(Kit.PAIR), 1);
            Edge.is(1, s.retrace(0, 0));
            Edge.is(0, s.retrace(0, 1));
            Kit.go(s, 0, 0, 0, 1);
            Edge.is(3, s.retrace(0, 0));
        });
        Edge.edge(Edge.TERMS, as, "each step back makes the eldest go: with KEEP 5 three of five", () -> {
            SnowKeeps s = Kit.toAndFro(Kit.of(Kit.PAIR + "keep 5;"), 5);
            Edge.is(3, s.retrace(0, 0));
            Edge.is(0, s.retrace(0, 1));
        });
        Edge.edge(Edge.TERMS, as, "the last one just still kept", () -> {
            Edge.is(3, Kit.toAndFro(Kit.of(Kit.PAIR + "keep 5;"), 3).retrace(0, 0));
            Edge.is(3, Kit.toAndFro(Kit.of(Kit.PAIR + "keep 6;"), 3).retrace(0, 0));
            Edge.is(2, Kit.toAndFro(Kit.of(Kit.PAIR + "keep 4;"), 3).retrace(0, 0));
        });
        Edge.edge(Edge.TERMS, as, "KEEP of one", () -> Edge.is(1, Kit.toAndFro(Kit.of(Kit.PAIR + "keep 1;"), 9).retrace(0, 0)));
        Edge.edge(Edge.TERMS, as, "prints of others between its own", () -> {
            SnowKeeps s = Kit.walked();
            Edge.is(2, s.retrace(0, 0));
            Edge.is(2, s.retrace(1, 0));
            s.storm(1);
            Edge.is(2, s.retrace(1, 0));
            s.storm(1);
            Edge.is(1, s.retrace(1, 0));
        });
        Edge.edge(Edge.TERMS, as, "room for all: back to where each began", () -> {
            SnowKeeps s = Kit.walked();
            s.keep(60);
            Edge.is(3, s.retrace(0, 0));
            Edge.is(0, s.retrace(0, 1));
            Edge.is(2, s.retrace(1, 0));
            Edge.is(2, s.retrace(1, 1));
        });
        Edge.edge(Edge.TERMS, as, "a storm ends it", () -> {
            SnowKeeps s = Kit.toAndFro(Kit.of(Kit.PAIR + "storm 5 60;"), 4);
            Edge.is(1, s.retrace(0, 0));
            Edge.is(1, s.retrace(0, 1));
        });
        Edge.edge(Edge.TERMS, as, "60 of 60 need KEEP for all: thirty", () ->
            Edge.is(30, Kit.toAndFro(Kit.of(Kit.PAIR + "keep 60;"), 60).retrace(0, 0)));
    }

    private static void retraceBounds() {
        String what = "RETRACE, what 0: STEPS back, 1: where it ends. IllegalArgumentException: another what.";
        Edge.edge(38, what, "2", () -> Edge.refuses(Edge.ARGUMENT, Kit::walked, s -> s.retrace(0, 2)));
        Edge.edge(38, what, "-1", () -> Edge.refuses(Edge.ARGUMENT, Kit::walked, s -> s.retrace(0, -1)));
        Edge.edge(38, what, "as if: nothing changes", () -> {
            SnowKeeps s = Kit.walked();
            String before = Kit.look(s);
            s.retrace(0, 0);
            s.retrace(1, 1);
            Edge.same(before, Kit.look(s));
        });
        String throwsOf = "retrace(int w, int what) throws NoSuchElementException, IllegalArgumentException";
        Edge.edge(38, throwsOf, "no such walker", () -> {
            Edge.refuses(Edge.NO_SUCH, Kit::walked, s -> s.retrace(2, 0));
            Edge.refuses(Edge.NO_SUCH, Kit::walked, s -> s.retrace(-1, 0));
        });
        Edge.edge(38, throwsOf, "no such walker is told first", () -> Edge.refuses(Edge.NO_SUCH, Kit::walked, s -> s.retrace(2, 2)));
    }

    private static void goesBack() {
        String goes = "It goes back so: STEPS it made.";
        Edge.edge(39, goes, "none: nothing changes", () -> {
            SnowKeeps s = bare();
            String before = Kit.look(s);
            Edge.is(0, s.goesBack(1));
            Edge.same(before, Kit.look(s));
        });
        Edge.edge(39, goes, "as far as retrace tells", () -> {
            SnowKeeps s = Kit.toAndFro(Kit.of(Kit.PAIR + "keep 5;"), 5);
            Edge.is(3, s.goesBack(0));
            Edge.is(0, s.walker(0, 0));
            Edge.is(8, s.walker(0, 1));
            Edge.is(8, s.count(6));
            Edge.is(5, s.count(5));
        });
        Edge.edge(39, goes, "with its storm", () -> {
            SnowKeeps s = Kit.toAndFro(Kit.of(Kit.PAIR + "storm 5 60;"), 4);
            Edge.is(1, s.goesBack(0));
            Edge.is(0, s.count(5));
            Edge.is(0, s.goesBack(0));
        });
        String throwsOf = "goesBack(int w) throws NoSuchElementException";
        Edge.edge(39, throwsOf, "no such walker", () -> {
            Edge.refuses(Edge.NO_SUCH, Kit::walked, s -> s.goesBack(2));
            Edge.refuses(Edge.NO_SUCH, Kit::walked, s -> s.goesBack(-1));
        });
    }
}
