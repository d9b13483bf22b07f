import java.util.Arrays;
import java.util.NoSuchElementException;

/**
 * A plain of snow that keeps just the last steps of its walkers, and what can be asked of the prints.
 * The document ../shared/DOC.md numbers what each call promises; words in CAPITALS are its terms.
 */
public final class SnowKeeps {
    public static final int NONE = -1;
    public static final int SPENT = -1000;

    private static final int MOST_BYTES = 600;
    private static final int BYTES_A_FEED = 20;
    private static final int MOST_PLACES = 10;
    private static final int MOST_PATHS = 16;
    private static final int MOST_WAYS = 2 * MOST_PATHS;
    private static final int MOST_WALKERS = 4;
    private static final int MOST_IN_BEAT = 8;
    private static final int MOST_KEPT = 60;
    private static final int MOST_REMEMBERED = 99;
    private static final int MOST_TURNS = 60;
    private static final int MOST_STEPS_ASKED = 60;
    private static final int MOST_PRINTS_IN_ROWS = 14;
    private static final int MOST_PRINTS_OF_TWO = 8;
    private static final int MOST_SIGNS = 2000;
    private static final int MOST_WAYS_OF_SIGN = 8;
    private static final int MOST_IN_TRAY = 30;
    private static final int TRAYS = 4;
    private static final int IMAGES = 3;
    /** Far above the rows of at most six STEPS that sixteen PATHS allow. */
    private static final int ENOUGH = 1000000;

    private final byte[] tape = new byte[MOST_BYTES];
    private int taped = 0;
    private int fault = 0;
    private int faultPlace = NONE;
    private final Snow now = new Snow();
    /** Where STEPS are made as if. */
    private final Snow trial = new Snow();
    /** Null where none was made. */
    private final Snow[] images = new Snow[IMAGES];
    private final Tray[] trays = new Tray[TRAYS];
    private final Leads leads = new Leads();
    private final Leads wolfLeads = new Leads();
    private final Turns turns = new Turns();
    private final Guides guidesOut = new Guides();
    private final Trails trails = new Trails();
    private final Wander wander = new Wander();
    private final Sign sign = new Sign();
    private final Unlike unlike = new Unlike();
    /** How often each WAY is there, of the PRINTS whose ROWS are asked. */
    private final int[] bag = new int[MOST_WAYS];
    /** The row that the latest search for a BLUR found. */
    private final int[] blurRow = new int[Wander.DEEPEST];
    private int blurSteps = 0;
    private int blurPlaces = 0;

    public SnowKeeps() {
        for (int i = 0; i < TRAYS; i++) {
            trays[i] = new Tray();
        }
    }

    // ---- the plain

    public int feed(int a, int b, int c, int d, int e) {
        if (taped > MOST_BYTES - BYTES_A_FEED) {
            return NONE;
        }
        putOnTape(a);
        putOnTape(b);
        putOnTape(c);
        putOnTape(d);
        putOnTape(e);
        return taped;
    }

    public int plain(int n) throws IllegalArgumentException {
        askWithin(n, 0, taped);
        Reader reader = new Reader(tape, n);
        Plain told = reader.tell();
        taped = 0;
        fault = reader.fault;
        faultPlace = reader.faultPlace;
        if (told == null) {
            return -10 - fault;
        }
        now.begin(told);
        return told.lines;
    }

    public int fault(int what) {
        if (what == 0) {
            return fault;
        }
        return what == 1 ? faultPlace : NONE;
    }

    public int path(int k, int what) throws NoSuchElementException, IllegalArgumentException {
        if (k < 0 || k >= now.plain.paths) {
            throw new NoSuchElementException("no such path");
        }
        askWithin(what, 0, 3);
        int way = 2 * k;
        if (what == 0) {
            return now.plain.begin(way);
        }
        if (what == 1) {
            return now.plain.end(way);
        }
        return now.printsAlong(what == 2 ? way : way + 1);
    }

    public int distance(int a, int b) throws NoSuchElementException {
        askPlace(a);
        askPlace(b);
        leads.takePaths(now.plain);
        return leads.fewest(a, b);
    }

    public int walker(int w, int what) throws NoSuchElementException, IllegalArgumentException {
        askWalker(w);
        askWithin(what, 0, 3);
        if (what == 0) {
            return now.stands[w];
        }
        if (what == 1) {
            return now.made[w];
        }
        if (what == 2) {
            return now.printsOf(w, 0);
        }
        int eldest = now.eldestOf(w);
        return eldest == NONE ? NONE : now.plain.begin(now.wayKept(eldest));
    }

    public int print(int k, int what) throws NoSuchElementException, IllegalArgumentException {
        if (k < 0 || k >= now.kept) {
            throw new NoSuchElementException("no such print");
        }
        askWithin(what, 0, 2);
        if (what == 0) {
            return now.plain.begin(now.wayKept(k));
        }
        return what == 1 ? now.plain.end(now.wayKept(k)) : now.whoseKept(k);
    }

    public int keep(int n) throws IllegalArgumentException {
        askWithin(n, 1, MOST_KEPT);
        now.mostKept = n;
        now.kept = Math.min(now.kept, n);
        return now.kept;
    }

    // ---- steps

    public int step(int w, int place) {
        int why = now.whyNot(w, place);
        if (why != 0) {
            return -why;
        }
        now.go(w, place);
        return now.kept;
    }

    public int storm(int n) throws IllegalArgumentException {
        askWithin(n, 0, now.kept);
        now.kept -= n;
        return now.kept;
    }

    public int noon() {
        int gone = now.kept;
        now.kept = 0;
        return gone;
    }

    public int rounds(int n) throws IllegalArgumentException {
        askWithin(n, 1, MOST_TURNS);
        int steps = 0;
        for (int i = 0; i < n; i++) {
            steps += now.turn();
        }
        return steps;
    }

    public int beat(int w, int k) throws NoSuchElementException, IllegalArgumentException {
        askWalker(w);
        if (k == NONE) {
            return now.next[w];
        }
        askWithin(k, 0, now.plain.beatLength[w] - 1);
        return now.plain.inBeat(w, k);
    }

    public int again(int what) throws IllegalArgumentException {
        askWithin(what, 0, 1);
        trial.take(now);
        if (!turns.comesAgain(trial)) {
            return NONE;
        }
        return what == 0 ? turns.length : turns.first;
    }

    public int judge(int tray, int what) throws NoSuchElementException, IllegalStateException, IllegalArgumentException {
        Tray told = askTold(tray);
        askWithin(what, 0, 3);
        trial.take(now);
        int made = makeTold(trial, told);
        boolean stopped = made < told.many;
        if (what == 0) {
            return stopped ? made : NONE;
        }
        if (what == 1) {
            return stopped ? whyNotTold(trial, told.numberAt(made)) : 0;
        }
        return what == 2 ? trial.kept : Integer.bitCount(trial.waysWithPrints());
    }

    public int perform(int tray) throws NoSuchElementException, IllegalStateException {
        return makeTold(now, askTold(tray));
    }

    public int day(int seed, int times) throws IllegalArgumentException, IllegalStateException {
        askWithin(times, 1, MOST_TURNS);
        int walkers = now.plain.walkers;
        if (walkers < 1) {
            throw new IllegalStateException("no walkers");
        }
        int x = seed;
        int steps = 0;
        for (int i = 0; i < times; i++) {
            x = 1103515245 * x + 12345;
            int w = (x >>> 16) % walkers;
            int near = now.plain.near(now.stands[w]);
            if (near > 0) {
                x = 1103515245 * x + 12345;
                now.go(w, now.plain.neighbour(now.stands[w], (x >>> 16) % near));
                steps++;
            }
        }
        return steps;
    }

    public int behind(int tray, int a, int b) throws NoSuchElementException, IllegalStateException {
        askPlace(a);
        askPlace(b);
        Tray told = askTold(tray);
        trial.take(now);
        makeTold(trial, told);
        return trial.printsAlong(trial.plain.way(a, b));
    }

    // ---- prints

    public int prints(int a, int b) throws NoSuchElementException {
        askPlace(a);
        askPlace(b);
        return now.printsAlong(now.plain.way(a, b));
    }

    public int age(int a, int b) throws NoSuchElementException {
        askPlace(a);
        askPlace(b);
        int latest = now.latestAlong(now.plain.way(a, b));
        return latest == NONE ? NONE : now.kept - 1 - latest;
    }

    public int seen(int p, boolean leaving) throws NoSuchElementException {
        askPlace(p);
        int set = 0;
        for (int k = 0; k < now.kept; k++) {
            int way = now.wayKept(k);
            int from = now.plain.begin(way);
            int to = now.plain.end(way);
            if (leaving && from == p) {
                set |= 1 << to;
            }
            if (!leaving && to == p) {
                set |= 1 << from;
            }
        }
        return set;
    }

    public int bare() {
        int ways = now.waysWithPrints();
        int set = 0;
        for (int k = 0; k < now.plain.paths; k++) {
            if ((ways >>> (2 * k) & 3) == 0) {
                set |= 1 << k;
            }
        }
        return set;
    }

    public int crossing(int w, int v) throws NoSuchElementException {
        askWalker(w);
        askWalker(v);
        return now.touchedBy(w) & now.touchedBy(v);
    }

    public int fades(int a, int b) throws NoSuchElementException {
        askPlace(a);
        askPlace(b);
        return now.stepsTillGone(now.latestAlong(now.plain.way(a, b)));
    }

    public int hired(int w) throws NoSuchElementException {
        askWalker(w);
        return now.stepsTillGone(now.latestOf(w));
    }

    public int remains(int w, int n) throws NoSuchElementException, IllegalArgumentException {
        askWalker(w);
        if (n < 0) {
            throw new IllegalArgumentException("fewer than no steps");
        }
        long gone = (long) now.kept + n - now.mostKept;
        return now.printsOf(w, (int) Math.max(0, Math.min(gone, now.kept)));
    }

    public int hires(int w, int each) throws NoSuchElementException, IllegalArgumentException {
        askWalker(w);
        if (each < 1 || each > 30) {
            throw new IllegalArgumentException("each makes 1 to 30 steps");
        }
        return (now.stepsTillGone(now.latestOf(w)) + each - 1) / each;
    }

    public int wolves() {
        return now.remembered();
    }

    public int wolf(int k, int what) throws NoSuchElementException, IllegalArgumentException {
        if (k < 0 || k >= now.remembered()) {
            throw new NoSuchElementException("the wolves remember no such print");
        }
        askWithin(what, 0, 2);
        if (what == 0) {
            return now.plain.begin(now.wayRemembered(k));
        }
        return what == 1 ? now.plain.end(now.wayRemembered(k)) : now.whoseRemembered(k);
    }

    // ---- who follows

    public int hound(int p, int what) throws NoSuchElementException, IllegalArgumentException {
        askPlace(p);
        askWithin(what, 0, 1);
        int at = p;
        int taken = 0;
        for (int k = 0; k < now.kept; k++) {
            if (now.plain.begin(now.wayKept(k)) == at) {
                at = now.plain.end(now.wayKept(k));
                taken++;
            }
        }
        return what == 0 ? taken : at;
    }

    public int hunter(int p, int n) throws NoSuchElementException, IllegalArgumentException {
        askPlace(p);
        askWithin(n, 0, MOST_STEPS_ASKED);
        leads.takePrints(now, 0);
        return leads.behindSteps(1 << p, n);
    }

    public int hunts(int p, int q) throws NoSuchElementException {
        askPlace(p);
        askPlace(q);
        leads.takePrints(now, 0);
        return leads.fewest(p, q);
    }

    public int meets(int hunter, int wolf) throws NoSuchElementException {
        askPlace(hunter);
        askPlace(wolf);
        leads.takePrints(now, 0);
        wolfLeads.takeRemembered(now);
        int hunters = 1 << hunter;
        int wolves = 1 << wolf;
        for (int n = 0; n <= MOST_STEPS_ASKED; n++) {
            if ((hunters & wolves) != 0) {
                return n;
            }
            hunters = leads.onward(hunters);
            wolves = wolfLeads.onward(wolves);
        }
        return NONE;
    }

    public int blur(int w, int n, int what) throws NoSuchElementException, IllegalArgumentException {
        askWalker(w);
        askWithin(n, 0, 3);
        if (what != 0 && what != 1) {
            askWithin(what, 10, 12);
        }
        seekBlur(w, n);
        if (what == 0) {
            return blurPlaces;
        }
        if (what == 1) {
            return blurSteps;
        }
        return what - 10 < blurSteps ? blurRow[what - 10] : NONE;
    }

    public int homes(int guides, int others) throws IllegalArgumentException {
        askWithin(guides, 1, MOST_WALKERS);
        askWithin(others, 0, 9);
        int all = (1 << guides) - 1;
        int far = 0;
        boolean home = true;
        while (home && far < MOST_STEPS_ASKED) {
            guidesOut.goAllOut(far + 1);
            home = guidesOut.comeHome(all, others, now.mostKept);
            if (home) {
                far++;
            }
        }
        return far;
    }

    public int bargain(int tray) throws NoSuchElementException, IllegalStateException, IllegalArgumentException {
        Tray told = askTold(tray);
        if (told.many < 1 || told.many > MOST_WALKERS) {
            throw new IllegalArgumentException("a bargain is of 1 to 4 guides");
        }
        for (int i = 0; i < told.many; i++) {
            long far = told.numberAt(i);
            if (far < 0 || far > Guides.FARTHEST_IN_BARGAIN) {
                throw new IllegalArgumentException("a guide goes out 0 to 30 steps");
            }
            guidesOut.far[i] = (int) far;
        }
        return guidesOut.bestSet(told.many, now.mostKept);
    }

    public int retrace(int w, int what) throws NoSuchElementException, IllegalArgumentException {
        askWalker(w);
        askWithin(what, 0, 1);
        trial.take(now);
        int steps = trial.turnBack(w);
        return what == 0 ? steps : trial.stands[w];
    }

    public int goesBack(int w) throws NoSuchElementException {
        askWalker(w);
        return now.turnBack(w);
    }

    // ---- from what is left

    public long rows(int p) throws NoSuchElementException {
        askPlace(p);
        if (!takeKept(MOST_PRINTS_IN_ROWS)) {
            return SPENT;
        }
        return trails.comeFrom(p);
    }

    public int row(int p, long k, int i) throws NoSuchElementException {
        askPlace(p);
        if (k < 0 || i < 0 || !takeKept(MOST_PRINTS_IN_ROWS)) {
            return NONE;
        }
        return trails.placeOf(p, k, i);
    }

    public int starts() {
        if (!takeKept(MOST_PRINTS_IN_ROWS)) {
            return SPENT;
        }
        int set = 0;
        for (int p = 0; p < now.plain.places; p++) {
            if (trails.comeFrom(p) > 0) {
                set |= 1 << p;
            }
        }
        return set;
    }

    public int sure(int p, boolean first) throws NoSuchElementException {
        askPlace(p);
        if (!takeKept(MOST_PRINTS_IN_ROWS)) {
            return NONE;
        }
        return first ? trails.onlyFirst(p) : trails.onlyLast(p);
    }

    public long two(int p, int q) throws NoSuchElementException {
        askPlace(p);
        askPlace(q);
        if (!takeKept(MOST_PRINTS_OF_TWO)) {
            return SPENT;
        }
        return trails.pairs(p, q);
    }

    public int clear(int p, int n, boolean only) throws NoSuchElementException, IllegalArgumentException {
        askPlace(p);
        askWithin(n, 0, 5);
        int count = 0;
        boolean more = wander.begin(now.plain, p, n);
        for (int i = 0; i < ENOUGH && more; i++) {
            if (wander.depth == n && (!only || isTheOnlyRow(p))) {
                count++;
            }
            more = wander.forth();
        }
        return count;
    }

    // ---- signs

    public int signs(int p, int n) throws NoSuchElementException, IllegalArgumentException {
        askPlace(p);
        askWithin(n, 0, 6);
        unlike.empty();
        boolean more = wander.begin(now.plain, p, n);
        for (int i = 0; i < ENOUGH && more; i++) {
            unlike.put(wander.lastWays(now.mostKept));
            if (unlike.size > MOST_SIGNS) {
                return SPENT;
            }
            more = wander.forth();
        }
        return unlike.size;
    }

    public int writes(int p, int tray) throws NoSuchElementException, IllegalStateException, IllegalArgumentException {
        askPlace(p);
        takeSign(askTold(tray));
        return writtenFrom(p);
    }

    public int pens(int tray) throws NoSuchElementException, IllegalStateException, IllegalArgumentException {
        takeSign(askTold(tray));
        int set = 0;
        for (int p = 0; p < now.plain.places; p++) {
            if (writtenFrom(p) != NONE) {
                set |= 1 << p;
            }
        }
        return set;
    }

    public int patrol(int tray) throws NoSuchElementException, IllegalStateException, IllegalArgumentException {
        takeSign(askTold(tray));
        return sign.fewestRound(now.plain);
    }

    public boolean tends(int tray) throws NoSuchElementException, IllegalStateException, IllegalArgumentException {
        takeSign(askTold(tray));
        int steps = sign.fewestRound(now.plain);
        return steps != NONE && steps <= now.mostKept;
    }

    public int crowd(int tray) throws NoSuchElementException, IllegalStateException, IllegalArgumentException {
        takeSign(askTold(tray));
        int steps = sign.fewestRound(now.plain);
        if (steps == NONE || steps > now.mostKept) {
            return NONE;
        }
        if (steps == 0) {
            return MOST_STEPS_ASKED;
        }
        return Math.min(MOST_STEPS_ASKED, now.mostKept / steps - 1);
    }

    public int lasts(int tray) throws NoSuchElementException, IllegalStateException, IllegalArgumentException {
        takeSign(askTold(tray));
        int least = NONE;
        for (int way = 0; way < 2 * now.plain.paths; way++) {
            if (sign.bitOf[way] != 0) {
                int steps = now.stepsTillGone(now.latestAlong(way));
                least = least == NONE ? steps : Math.min(least, steps);
            }
        }
        return least;
    }

    public int reads(int tray) throws NoSuchElementException, IllegalStateException {
        Tray told = askTold(tray);
        int ways = now.waysWithPrints();
        int come = 0;
        for (int way = 0; way < MOST_WAYS; way++) {
            if ((ways >>> way & 1) != 0 && come < told.many) {
                told.put(come, way);
                come++;
            }
        }
        return come;
    }

    // ---- trays, images

    public void tray(int tray, int sort, int many) throws NoSuchElementException, IllegalArgumentException {
        Tray laid = askTray(tray);
        askWithin(sort, 0, 3);
        askWithin(many, 0, MOST_IN_TRAY);
        laid.lay(sort, many);
    }

    public long write(int tray, int place, long v) throws NoSuchElementException, IllegalStateException, IndexOutOfBoundsException {
        Tray told = askTold(tray);
        if (place < 0 || place >= told.many) {
            throw new IndexOutOfBoundsException("the tray has no such place");
        }
        return told.put(place, v);
    }

    public void image(int i) throws NoSuchElementException {
        askImage(i);
        if (images[i] == null) {
            images[i] = new Snow();
        }
        images[i].take(now);
    }

    public void restore(int i) throws NoSuchElementException, IllegalStateException {
        askImage(i);
        if (images[i] == null) {
            throw new IllegalStateException("no such image was made");
        }
        now.take(images[i]);
    }

    public int count(int what) {
        switch (what) {
            case 0: return now.plain.lines;
            case 1: return now.plain.places;
            case 2: return now.plain.paths;
            case 3: return now.plain.walkers;
            case 4: return now.mostKept;
            case 5: return now.kept;
            case 6: return now.steps;
            case 7: return taped;
            case 8: return now.plain.stormEvery;
            case 9: return now.plain.stormTakes;
            case 10: return now.plain.mostRemembered;
            default: return NONE;
        }
    }

    // ---- what a call asks ahead

    private void askPlace(int p) {
        if (!now.plain.hasPlace(p)) {
            throw new NoSuchElementException("no such place");
        }
    }

    private void askWalker(int w) {
        if (!now.plain.hasWalker(w)) {
            throw new NoSuchElementException("no such walker");
        }
    }

    private Tray askTray(int tray) {
        if (tray < 0 || tray >= trays.length || trays[tray] == null) {
            throw new NoSuchElementException("no such tray");
        }
        return trays[tray];
    }

    private Tray askTold(int tray) {
        Tray told = askTray(tray);
        if (told.isMissing()) {
            throw new IllegalStateException("the tray is missing");
        }
        return told;
    }

    private static void askImage(int i) {
        if (i < 0 || i >= IMAGES) {
            throw new NoSuchElementException("no such image");
        }
    }

    private static void askWithin(int n, int least, int most) {
        if (n < least || n > most) {
            throw new IllegalArgumentException("a number out of its bounds");
        }
    }

    private void takeSign(Tray told) {
        if (!sign.load(now.plain, told)) {
            throw new IllegalArgumentException("no way, or more than 8 unlike ones");
        }
    }

    // ---- parts of calls

    private void putOnTape(int four) {
        for (int shift = 24; shift >= 0; shift -= 8) {
            if (taped < MOST_BYTES) {
                tape[taped] = (byte) (four >>> shift);
                taped++;
            }
        }
    }

    /** How many TOLD STEPS were made till one can't be. */
    private static int makeTold(Snow snow, Tray told) {
        for (int i = 0; i < told.many; i++) {
            long number = told.numberAt(i);
            if (whyNotTold(snow, number) != 0) {
                return i;
            }
            snow.go((int) (number / 100), (int) (number % 100));
        }
        return told.many;
    }

    private static int whyNotTold(Snow snow, long number) {
        if (number < 0 || number / 100 >= snow.plain.walkers) {
            return 1;
        }
        return snow.whyNot((int) (number / 100), (int) (number % 100));
    }

    private void seekBlur(int w, int n) {
        blurPlaces = NONE;
        blurSteps = 0;
        int start = now.stands[w];
        boolean more = wander.begin(now.plain, start, n);
        for (int i = 0; i < ENOUGH && more; i++) {
            int steps = wander.depth;
            int gone = Math.max(0, now.kept + steps - now.mostKept);
            leads.takePrints(now, gone);
            leads.takeRow(wander, gone - now.kept);
            int places = Integer.bitCount(leads.behindSteps(1 << start, n));
            if (places > blurPlaces || places == blurPlaces && steps < blurSteps) {
                blurPlaces = places;
                blurSteps = steps;
                wander.copyPlaces(blurRow);
            }
            more = wander.forth();
        }
    }

    /** Whether the ROWS of what is kept can be asked; then they stand in trails. */
    private boolean takeKept(int most) {
        if (now.kept > most) {
            return false;
        }
        Arrays.fill(bag, 0);
        for (int k = 0; k < now.kept; k++) {
            int way = now.wayKept(k);
            if (way >= 0 && way < MOST_WAYS) {
                bag[way]++;
            }
        }
        trails.load(now.plain, bag);
        return true;
    }

    private boolean isTheOnlyRow(int p) {
        Arrays.fill(bag, 0);
        for (int m = 1; m <= wander.depth; m++) {
            bag[wander.ways[m]]++;
        }
        trails.load(now.plain, bag);
        return trails.comeFrom(p) == 1;
    }

    private int writtenFrom(int p) {
        int steps = sign.fewestAlong(now.plain, p);
        return steps > now.mostKept ? NONE : steps;
    }

    /** What a TEXT tells; once it is read nothing of it changes, so images share it. */
    private static final class Plain {
        int lines = 0;
        int places = 0;
        int paths = 0;
        int walkers = 0;
        int keepTold = 20;
        int mostRemembered = 20;
        int stormEvery = 0;
        int stormTakes = 0;
        /** The PLACE where a WAY begins; that of its other direction (way ^ 1) is where it ends. */
        private final int[] begins = new int[MOST_WAYS];
        private final int[] wayOf = new int[MOST_PLACES * MOST_PLACES];
        final int[] home = new int[MOST_WALKERS];
        final int[] beatLength = new int[MOST_WALKERS];
        private final int[] beats = new int[MOST_WALKERS * MOST_IN_BEAT];

        Plain() {
            Arrays.fill(wayOf, NONE);
        }

        boolean hasPlace(int p) {
            return p >= 0 && p < places;
        }

        boolean hasWalker(int w) {
            return w >= 0 && w < walkers;
        }

        int way(int from, int to) {
            return hasPlace(from) && hasPlace(to) ? wayOf[MOST_PLACES * from + to] : NONE;
        }

        int begin(int way) {
            return way >= 0 && way < 2 * paths ? begins[way] : NONE;
        }

        int end(int way) {
            return way >= 0 && way < 2 * paths ? begins[way ^ 1] : NONE;
        }

        void addPath(int first, int second) {
            if (paths < MOST_PATHS && hasPlace(first) && hasPlace(second)) {
                begins[2 * paths] = first;
                begins[2 * paths + 1] = second;
                wayOf[MOST_PLACES * first + second] = 2 * paths;
                wayOf[MOST_PLACES * second + first] = 2 * paths + 1;
                paths++;
            }
        }

        void addWalker(int place) {
            if (walkers < MOST_WALKERS) {
                home[walkers] = place;
                walkers++;
            }
        }

        /** One PLACE more of the BEAT of the WALKER told last. */
        void addToBeat(int place) {
            int w = walkers - 1;
            if (w >= 0 && w < MOST_WALKERS && beatLength[w] < MOST_IN_BEAT) {
                beats[MOST_IN_BEAT * w + beatLength[w]] = place;
                beatLength[w]++;
            }
        }

        int inBeat(int w, int k) {
            return hasWalker(w) && k >= 0 && k < beatLength[w] ? beats[MOST_IN_BEAT * w + k] : NONE;
        }

        /** How many PLACES a PATH leads to from here. */
        int near(int place) {
            int near = 0;
            for (int to = 0; to < places; to++) {
                if (way(place, to) != NONE) {
                    near++;
                }
            }
            return near;
        }

        /** The k-th, in order, of the PLACES that a PATH leads to from here. */
        int neighbour(int place, int k) {
            int left = k;
            for (int to = 0; to < places; to++) {
                if (way(place, to) != NONE) {
                    if (left == 0) {
                        return to;
                    }
                    left--;
                }
            }
            return NONE;
        }
    }

    /** Reads a TEXT, TOKEN by TOKEN, till its end or its first FAULT. */
    private static final class Reader {
        private static final int END = 0;
        private static final int WORD = 1;
        private static final int NUMBER = 2;
        private static final int MARK = 3;
        private static final int NO_TOKEN = 4;
        private static final int BEGINS_NOTHING = 1;
        private static final int CANT_STAND = 2;
        private static final int OUT_OF_BOUNDS = 3;
        private static final int TOO_MANY = 4;

        private final byte[] text;
        private final int length;
        private int kind = END;
        private int begin = 0;
        private int end = 0;
        private int number = 0;
        int fault = 0;
        int faultPlace = NONE;

        Reader(byte[] text, int length) {
            this.text = text;
            this.length = length;
        }

        /** THE PLAIN of the text, or null if it has a FAULT. */
        Plain tell() {
            Plain plain = new Plain();
            advance();
            if (!tellPlaces(plain)) {
                return null;
            }
            for (int line = 0; line < length && kind != END; line++) {
                if (!tellLine(plain)) {
                    return null;
                }
            }
            return plain;
        }

        private boolean tellPlaces(Plain plain) {
            if (!isWord("places")) {
                return fail(CANT_STAND);
            }
            advance();
            if (!isNumber(1, MOST_PLACES)) {
                return false;
            }
            plain.places = number;
            advance();
            return endLine(plain);
        }

        private boolean tellLine(Plain plain) {
            boolean fine;
            if (isWord("path")) {
                fine = tellPath(plain);
            } else if (isWord("walker")) {
                fine = tellWalker(plain);
            } else if (isWord("keep")) {
                fine = tellKeep(plain);
            } else if (isWord("storm")) {
                fine = tellStorm(plain);
            } else if (isWord("wolves")) {
                fine = tellWolves(plain);
            } else {
                fine = fail(CANT_STAND);
            }
            return fine && endLine(plain);
        }

        private boolean tellPath(Plain plain) {
            if (plain.paths == MOST_PATHS) {
                return fail(TOO_MANY);
            }
            advance();
            if (!isNumber(0, plain.places - 1)) {
                return false;
            }
            int first = number;
            advance();
            if (!isNumber(0, plain.places - 1)) {
                return false;
            }
            if (number == first || plain.way(first, number) != NONE) {
                return fail(OUT_OF_BOUNDS);
            }
            plain.addPath(first, number);
            advance();
            return true;
        }

        private boolean tellWalker(Plain plain) {
            if (plain.walkers == MOST_WALKERS) {
                return fail(TOO_MANY);
            }
            advance();
            if (!isNumber(0, plain.places - 1)) {
                return false;
            }
            plain.addWalker(number);
            advance();
            return !isWord("beat") || tellBeat(plain);
        }

        private boolean tellBeat(Plain plain) {
            advance();
            for (int k = 0; k <= MOST_IN_BEAT; k++) {
                if (!isNumber(0, plain.places - 1)) {
                    return false;
                }
                if (k == MOST_IN_BEAT) {
                    return fail(TOO_MANY);
                }
                plain.addToBeat(number);
                advance();
                if (kind != NUMBER) {
                    return true;
                }
            }
            return true;
        }

        private boolean tellKeep(Plain plain) {
            advance();
            if (!isNumber(1, MOST_KEPT)) {
                return false;
            }
            plain.keepTold = number;
            advance();
            return true;
        }

        private boolean tellStorm(Plain plain) {
            advance();
            if (!isNumber(1, 99)) {
                return false;
            }
            plain.stormEvery = number;
            advance();
            if (!isNumber(0, MOST_KEPT)) {
                return false;
            }
            plain.stormTakes = number;
            advance();
            return true;
        }

        private boolean tellWolves(Plain plain) {
            advance();
            if (!isNumber(1, MOST_REMEMBERED)) {
                return false;
            }
            plain.mostRemembered = number;
            advance();
            return true;
        }

        private boolean endLine(Plain plain) {
            if (kind != MARK) {
                return fail(CANT_STAND);
            }
            plain.lines++;
            advance();
            return true;
        }

        private boolean isNumber(int least, int most) {
            if (kind != NUMBER) {
                return fail(CANT_STAND);
            }
            return number >= least && number <= most || fail(OUT_OF_BOUNDS);
        }

        private boolean isWord(String word) {
            if (kind != WORD || end - begin != word.length()) {
                return false;
            }
            for (int i = 0; i < word.length(); i++) {
                if (text[begin + i] != word.charAt(i)) {
                    return false;
                }
            }
            return true;
        }

        /** Always false; what begins no TOKEN is that before all else. */
        private boolean fail(int why) {
            fault = kind == NO_TOKEN ? BEGINS_NOTHING : why;
            faultPlace = begin;
            return false;
        }

        /** The next TOKEN becomes the one looked at. */
        private void advance() {
            begin = end;
            while (begin < length && (text[begin] == 10 || text[begin] == 32)) {
                begin++;
            }
            end = begin;
            if (begin >= length) {
                kind = END;
            } else if (isLetter(text[begin])) {
                kind = WORD;
                while (end < length && isLetter(text[end])) {
                    end++;
                }
            } else if (isDigit(text[begin])) {
                advanceDigits();
            } else {
                kind = text[begin] == ';' ? MARK : NO_TOKEN;
                end++;
            }
        }

        private void advanceDigits() {
            number = 0;
            while (end < length && isDigit(text[end])) {
                if (end - begin < 3) {
                    number = 10 * number + text[end] - '0';
                }
                end++;
            }
            kind = end - begin <= 3 ? NUMBER : NO_TOKEN;
        }

        private static boolean isLetter(int sign) {
            return sign >= 'a' && sign <= 'z';
        }

        private static boolean isDigit(int sign) {
            return sign >= '0' && sign <= '9';
        }
    }

    /**
     * All that STEPS change. What the snow keeps and what WOLVES remember are both the last of all PRINTS made,
     * so one log of those and two counts hold them.
     */
    private static final class Snow {
        Plain plain = new Plain();
        int mostKept = plain.keepTold;
        int kept = 0;
        int steps = 0;
        private int logged = 0;
        private final int[] wayLog = new int[MOST_REMEMBERED];
        private final int[] whoseLog = new int[MOST_REMEMBERED];
        final int[] stands = new int[MOST_WALKERS];
        final int[] made = new int[MOST_WALKERS];
        final int[] next = new int[MOST_WALKERS];

        /** Fresh snow on another plain. */
        void begin(Plain told) {
            plain = told;
            mostKept = told.keepTold;
            kept = 0;
            steps = 0;
            logged = 0;
            System.arraycopy(told.home, 0, stands, 0, MOST_WALKERS);
            Arrays.fill(made, 0);
            Arrays.fill(next, 0);
        }

        /** All is as in the other one. */
        void take(Snow other) {
            plain = other.plain;
            mostKept = other.mostKept;
            kept = other.kept;
            steps = other.steps;
            logged = other.logged;
            System.arraycopy(other.wayLog, 0, wayLog, 0, MOST_REMEMBERED);
            System.arraycopy(other.whoseLog, 0, whoseLog, 0, MOST_REMEMBERED);
            System.arraycopy(other.stands, 0, stands, 0, MOST_WALKERS);
            System.arraycopy(other.made, 0, made, 0, MOST_WALKERS);
            System.arraycopy(other.next, 0, next, 0, MOST_WALKERS);
        }

        /** Why a STEP can't be, 0 if it can. */
        int whyNot(int w, int place) {
            if (!plain.hasWalker(w)) {
                return 1;
            }
            return plain.way(stands[w], place) == NONE ? 2 : 0;
        }

        /** A STEP, with its storm; nothing if it can't be. */
        void go(int w, int place) {
            if (whyNot(w, place) != 0) {
                return;
            }
            log(plain.way(stands[w], place), w);
            kept = Math.min(kept + 1, mostKept);
            steps++;
            made[w]++;
            stands[w] = place;
            if (plain.stormEvery > 0 && steps % plain.stormEvery == 0) {
                kept -= Math.min(kept, plain.stormTakes);
            }
        }

        private void log(int way, int w) {
            if (logged >= MOST_REMEMBERED) {
                System.arraycopy(wayLog, 1, wayLog, 0, MOST_REMEMBERED - 1);
                System.arraycopy(whoseLog, 1, whoseLog, 0, MOST_REMEMBERED - 1);
                logged = MOST_REMEMBERED - 1;
            }
            wayLog[logged] = way;
            whoseLog[logged] = w;
            logged++;
        }

        /** A TURN: how many STEPS. */
        int turn() {
            int before = steps;
            for (int w = 0; w < plain.walkers; w++) {
                int length = plain.beatLength[w];
                if (length > 0) {
                    go(w, plain.inBeat(w, next[w]));
                    next[w] = (next[w] + 1) % length;
                }
            }
            return steps - before;
        }

        /** RETRACE: how many STEPS back. The n-th PRINT of all is kept as long as n is not below steps - kept. */
        int turnBack(int w) {
            int before = steps;
            for (int n = before - 1; n >= 0 && n >= steps - kept; n--) {
                int k = n - (steps - kept);
                if (whoseKept(k) == w) {
                    go(w, plain.begin(wayKept(k)));
                }
            }
            return steps - before;
        }

        int wayKept(int k) {
            return logAt(wayLog, kept, k);
        }

        int whoseKept(int k) {
            return logAt(whoseLog, kept, k);
        }

        int remembered() {
            return Math.min(logged, plain.mostRemembered);
        }

        int wayRemembered(int k) {
            return logAt(wayLog, remembered(), k);
        }

        int whoseRemembered(int k) {
            return logAt(whoseLog, remembered(), k);
        }

        /** The k-th of the last so many of a log. */
        private int logAt(int[] log, int last, int k) {
            int at = logged - last + k;
            return k >= 0 && k < last && at >= 0 && at < log.length ? log[at] : NONE;
        }

        int printsAlong(int way) {
            int count = 0;
            for (int k = 0; k < kept; k++) {
                if (wayKept(k) == way) {
                    count++;
                }
            }
            return count;
        }

        int latestAlong(int way) {
            int latest = NONE;
            for (int k = 0; k < kept; k++) {
                if (wayKept(k) == way) {
                    latest = k;
                }
            }
            return latest;
        }

        /** PRINTS of a WALKER from the k-th kept one on. */
        int printsOf(int w, int from) {
            int count = 0;
            for (int k = from; k < kept; k++) {
                if (whoseKept(k) == w) {
                    count++;
                }
            }
            return count;
        }

        int eldestOf(int w) {
            for (int k = 0; k < kept; k++) {
                if (whoseKept(k) == w) {
                    return k;
                }
            }
            return NONE;
        }

        int latestOf(int w) {
            for (int k = kept - 1; k >= 0; k--) {
                if (whoseKept(k) == w) {
                    return k;
                }
            }
            return NONE;
        }

        /** Without storms: STEPS till the k-th kept PRINT is gone; 0 for none. */
        int stepsTillGone(int k) {
            return k == NONE ? 0 : mostKept - kept + k + 1;
        }

        int touchedBy(int w) {
            int set = 0;
            for (int k = 0; k < kept; k++) {
                if (whoseKept(k) == w) {
                    set |= 1 << plain.begin(wayKept(k)) | 1 << plain.end(wayKept(k));
                }
            }
            return set;
        }

        /** WAYS that have PRINTS, as bits. */
        int waysWithPrints() {
            int set = 0;
            for (int k = 0; k < kept; k++) {
                set |= 1 << wayKept(k);
            }
            return set;
        }
    }

    /** TURNS on end, till all is as it was. */
    private static final class Turns {
        private static final int MOST = 120;
        private static final int AHEAD_OF_PRINTS = 2 + 2 * MOST_WALKERS;
        private final int[][] states = new int[MOST + 1][AHEAD_OF_PRINTS + MOST_KEPT];
        int first = 0;
        int length = 0;

        /** Whether it does; the snow is gone on with. */
        boolean comesAgain(Snow snow) {
            for (int turn = 0; turn <= MOST; turn++) {
                note(snow, states[turn]);
                for (int earlier = 0; earlier < turn; earlier++) {
                    if (isSame(states[earlier], states[turn])) {
                        first = earlier;
                        length = turn - earlier;
                        return true;
                    }
                }
                snow.turn();
            }
            return false;
        }

        private static void note(Snow snow, int[] state) {
            Arrays.fill(state, 0);
            state[0] = snow.plain.stormEvery > 0 ? snow.steps % snow.plain.stormEvery : 0;
            state[1] = snow.kept;
            for (int w = 0; w < MOST_WALKERS; w++) {
                state[2 + 2 * w] = snow.stands[w];
                state[3 + 2 * w] = snow.next[w];
            }
            for (int k = 0; k < snow.kept && AHEAD_OF_PRINTS + k < state.length; k++) {
                state[AHEAD_OF_PRINTS + k] = MOST_WALKERS * snow.wayKept(k) + snow.whoseKept(k);
            }
        }

        private static boolean isSame(int[] one, int[] other) {
            for (int i = 0; i < one.length && i < other.length; i++) {
                if (one[i] != other[i]) {
                    return false;
                }
            }
            return true;
        }
    }

    /** To which PLACES one may go on from each PLACE, as bits. */
    private static final class Leads {
        private final int[] onwardFrom = new int[MOST_PLACES];

        void takePaths(Plain plain) {
            Arrays.fill(onwardFrom, 0);
            for (int way = 0; way < 2 * plain.paths; way++) {
                lead(plain, way);
            }
        }

        /** The PRINTS from the k-th kept one on. */
        void takePrints(Snow snow, int from) {
            Arrays.fill(onwardFrom, 0);
            for (int k = from; k < snow.kept; k++) {
                lead(snow.plain, snow.wayKept(k));
            }
        }

        void takeRemembered(Snow snow) {
            Arrays.fill(onwardFrom, 0);
            for (int k = 0; k < snow.remembered(); k++) {
                lead(snow.plain, snow.wayRemembered(k));
            }
        }

        /** The STEPS of a row, too, but for the first so many. */
        void takeRow(Wander row, int gone) {
            for (int m = 1; m <= row.depth; m++) {
                if (m > gone) {
                    lead(row.plain, row.ways[m]);
                }
            }
        }

        private void lead(Plain plain, int way) {
            int from = plain.begin(way);
            if (from >= 0 && from < MOST_PLACES) {
                onwardFrom[from] |= 1 << plain.end(way);
            }
        }

        int onward(int set) {
            int then = 0;
            for (int p = 0; p < MOST_PLACES; p++) {
                if ((set >>> p & 1) != 0) {
                    then |= onwardFrom[p];
                }
            }
            return then;
        }

        int behindSteps(int set, int n) {
            int then = set;
            for (int i = 0; i < n; i++) {
                then = onward(then);
            }
            return then;
        }

        /** The fewest STEPS from p to q: never as many as there are PLACES. */
        int fewest(int p, int q) {
            int set = 1 << p;
            for (int n = 0; n < MOST_PLACES; n++) {
                if ((set >>> q & 1) != 0) {
                    return n;
                }
                set = onward(set);
            }
            return NONE;
        }
    }

    /** GUIDES who go out on fresh snow and come home over what they left. */
    private static final class Guides {
        static final int FARTHEST_IN_BARGAIN = 30;
        final int[] far = new int[MOST_WALKERS];
        /** Which of all PRINTS each left by each STEP out. */
        private final int[][] left = new int[MOST_WALKERS][MOST_STEPS_ASKED];

        void goAllOut(int steps) {
            Arrays.fill(far, Math.min(steps, MOST_STEPS_ASKED));
        }

        /** Whether all of a set do, if others make so many STEPS behind each turn. */
        boolean comeHome(int set, int others, int mostKept) {
            int turns = 0;
            for (int g = 0; g < MOST_WALKERS; g++) {
                if ((set >>> g & 1) != 0) {
                    turns = Math.max(turns, far[g]);
                }
            }
            int made = 0;
            for (int turn = 0; turn < turns; turn++) {
                for (int g = 0; g < MOST_WALKERS; g++) {
                    if ((set >>> g & 1) != 0 && turn < far[g]) {
                        left[g][turn] = made;
                        made++;
                    }
                }
                made += others;
            }
            for (int turn = 0; turn < turns; turn++) {
                for (int g = 0; g < MOST_WALKERS; g++) {
                    if ((set >>> g & 1) != 0 && turn < far[g]) {
                        if (made - left[g][far[g] - 1 - turn] > mostKept) {
                            return false;
                        }
                        made++;
                    }
                }
                made += others;
            }
            return true;
        }

        /** BARGAIN of the first so many. */
        int bestSet(int guides, int mostKept) {
            int best = 0;
            int bestSteps = 0;
            for (int set = 1; set < 1 << guides; set++) {
                int more = Integer.bitCount(set) - Integer.bitCount(best);
                int steps = stepsOut(set);
                if ((more > 0 || more == 0 && steps > bestSteps) && comeHome(set, 0, mostKept)) {
                    best = set;
                    bestSteps = steps;
                }
            }
            return best;
        }

        private int stepsOut(int set) {
            int steps = 0;
            for (int g = 0; g < MOST_WALKERS; g++) {
                if ((set >>> g & 1) != 0) {
                    steps += far[g];
                }
            }
            return steps;
        }
    }

    /**
     * ROWS of a bag of WAYS. A part of the bag is a code: each WAY has bits enough for its number there, at its shift.
     * At most 14 PRINTS need at most 14 bits. The start and the part left behind tell where one is.
     */
    private static final class Trails {
        private static final int CODES = 1 << MOST_PRINTS_IN_ROWS;
        private Plain plain = new Plain();
        private int slots = 0;
        private int full = 0;
        private final int[] slotWay = new int[MOST_PRINTS_IN_ROWS];
        private final int[] slotTimes = new int[MOST_PRINTS_IN_ROWS];
        private final int[] shift = new int[MOST_PRINTS_IN_ROWS];
        private final int[] mask = new int[MOST_PRINTS_IN_ROWS];
        /** By how many rows from the start a part may have been left. */
        private final long[] coming = new long[CODES];
        /** By how many rows what it lacks may be left then. */
        private final long[] going = new long[CODES];
        /** Where one is behind a part. */
        private final int[] where = new int[CODES];

        /** How often each WAY is in the bag, 14 together at most. */
        void load(Plain told, int[] times) {
            plain = told;
            slots = 0;
            full = 0;
            int bits = 0;
            for (int way = 0; way < times.length; way++) {
                int need = bitsFor(times[way]);
                if (need > 0 && bits + need <= MOST_PRINTS_IN_ROWS) {
                    slotWay[slots] = way;
                    slotTimes[slots] = times[way];
                    shift[slots] = bits;
                    mask[slots] = (1 << need) - 1;
                    full += times[way] << bits;
                    bits += need;
                    slots++;
                }
            }
        }

        private static int bitsFor(int count) {
            int bits = 0;
            while (bits < MOST_PRINTS_IN_ROWS && count >>> bits != 0) {
                bits++;
            }
            return bits;
        }

        /** Whether the slot's WAY leaves from where one is behind a part, and the part lacks one of it. */
        private boolean mayGoOn(int code, int slot) {
            return plain.begin(slotWay[slot]) == where[code] && (code >>> shift[slot] & mask[slot]) < slotTimes[slot];
        }

        /** How many ROWS there are from a PLACE. */
        long comeFrom(int start) {
            countComing(start, coming);
            return coming[full];
        }

        private void countComing(int start, long[] counts) {
            Arrays.fill(counts, 0, full + 1, 0);
            counts[0] = 1;
            where[0] = start;
            for (int code = 0; code < full; code++) {
                if (counts[code] > 0) {
                    for (int slot = 0; slot < slots; slot++) {
                        if (mayGoOn(code, slot)) {
                            int then = code + (1 << shift[slot]);
                            counts[then] += counts[code];
                            where[then] = plain.end(slotWay[slot]);
                        }
                    }
                }
            }
        }

        /** How many ROWS there are from a PLACE, and how each part goes on. */
        private long goFrom(int start) {
            countComing(start, coming);
            Arrays.fill(going, 0, full + 1, 0);
            going[full] = coming[full] > 0 ? 1 : 0;
            for (int code = full - 1; code >= 0; code--) {
                if (coming[code] > 0) {
                    for (int slot = 0; slot < slots; slot++) {
                        if (mayGoOn(code, slot)) {
                            going[code] += going[code + (1 << shift[slot])];
                        }
                    }
                }
            }
            return going[0];
        }

        /** The i-th PLACE of the k-th ROW from a PLACE, NONE without. */
        int placeOf(int start, long k, int i) {
            if (k >= goFrom(start)) {
                return NONE;
            }
            long left = k;
            int code = 0;
            for (int m = 0; m < i; m++) {
                int slot = NONE;
                for (int to = 0; to < plain.places && slot == NONE; to++) {
                    int here = slotTo(code, to);
                    long count = here == NONE ? 0 : going[code + (1 << shift[here])];
                    if (left < count) {
                        slot = here;
                    } else {
                        left -= count;
                    }
                }
                if (slot == NONE) {
                    return NONE;
                }
                code += 1 << shift[slot];
            }
            return where[code];
        }

        private int slotTo(int code, int to) {
            for (int slot = 0; slot < slots; slot++) {
                if (mayGoOn(code, slot) && plain.end(slotWay[slot]) == to) {
                    return slot;
                }
            }
            return NONE;
        }

        /** The WAY that all ROWS from a PLACE take first. */
        int onlyFirst(int start) {
            goFrom(start);
            int only = NONE;
            for (int slot = 0; slot < slots; slot++) {
                if (mayGoOn(0, slot) && going[1 << shift[slot]] > 0) {
                    if (only != NONE) {
                        return NONE;
                    }
                    only = slotWay[slot];
                }
            }
            return only;
        }

        /** The WAY that all ROWS from a PLACE take last. */
        int onlyLast(int start) {
            countComing(start, coming);
            int only = NONE;
            for (int slot = 0; slot < slots; slot++) {
                int ahead = full - (1 << shift[slot]);
                if (ahead >= 0 && coming[ahead] > 0 && mayGoOn(ahead, slot)) {
                    if (only != NONE) {
                        return NONE;
                    }
                    only = slotWay[slot];
                }
            }
            return only;
        }

        /** ROWS OF TWO: what the one leaves not is the other's. */
        long pairs(int p, int q) {
            countComing(p, coming);
            countComing(q, going);
            long pairs = 0;
            for (int code = 0; code <= full; code++) {
                if (coming[code] > 0) {
                    pairs += coming[code] * going[full - code];
                }
            }
            return pairs;
        }
    }

    /** Rows of at most so many STEPS of one, in order by PLACES, each ahead of those that go on from it. */
    private static final class Wander {
        static final int DEEPEST = 6;
        Plain plain = new Plain();
        private int most = 0;
        int depth = 0;
        private final int[] places = new int[DEEPEST + 1];
        /** The WAY of STEP m, from 1 on. */
        final int[] ways = new int[DEEPEST + 1];

        /** The row of no STEPS; true, as that one is always there. */
        boolean begin(Plain told, int start, int steps) {
            plain = told;
            most = Math.min(steps, DEEPEST);
            depth = 0;
            places[0] = start;
            return true;
        }

        /** The next row; false if there is none. */
        boolean forth() {
            if (depth < most && goOn(0)) {
                return true;
            }
            while (depth > 0) {
                int tried = places[depth];
                depth--;
                if (goOn(tried + 1)) {
                    return true;
                }
            }
            return false;
        }

        /** One STEP more, to the first PLACE from the least one on. */
        private boolean goOn(int least) {
            for (int to = least; to < plain.places && depth < DEEPEST; to++) {
                int way = plain.way(places[depth], to);
                if (way != NONE) {
                    depth++;
                    places[depth] = to;
                    ways[depth] = way;
                    return true;
                }
            }
            return false;
        }

        /** The WAYS of the last so many STEPS, as bits. */
        int lastWays(int last) {
            int set = 0;
            for (int m = Math.max(1, depth - last + 1); m <= depth; m++) {
                set |= 1 << ways[m];
            }
            return set;
        }

        /** The PLACES behind the STEPS. */
        void copyPlaces(int[] into) {
            for (int m = 1; m <= depth && m <= into.length; m++) {
                into[m - 1] = places[m];
            }
        }
    }

    /** Unlike sets of WAYS, with room for twice as many as are counted at most. */
    private static final class Unlike {
        private static final int ROOM = 4096;
        int size = 0;
        /** Each set at the first free place from its own on; NONE where it is free, which no set is as a long. */
        private final long[] sets = new long[ROOM];

        void empty() {
            size = 0;
            Arrays.fill(sets, NONE);
        }

        void put(int set) {
            long bits = set & 0xFFFFFFFFL;
            int own = set * 0x9E3779B1 >>> 20;
            for (int i = 0; i < ROOM; i++) {
                int at = (own + i) % ROOM;
                if (sets[at] == bits) {
                    return;
                }
                if (sets[at] == NONE) {
                    sets[at] = bits;
                    size++;
                    return;
                }
            }
        }
    }

    /** A SIGN by its WAYS, and the fewest STEPS through all of it. */
    private static final class Sign {
        private static final int PLACE_BITS = 4;
        private static final int STATES = 1 << MOST_WAYS_OF_SIGN + PLACE_BITS;
        /** The bit that each WAY of it has; 0 for others. */
        final int[] bitOf = new int[MOST_WAYS];
        private int size = 0;
        private int firstTold = NONE;
        private final int[] far = new int[STATES];
        private final int[] queue = new int[STATES];

        /** False if a number is no WAY, or there are too many. */
        boolean load(Plain plain, Tray told) {
            Arrays.fill(bitOf, 0);
            size = 0;
            firstTold = NONE;
            for (int i = 0; i < told.many; i++) {
                long number = told.numberAt(i);
                if (number < 0 || number >= 2 * plain.paths) {
                    return false;
                }
                int way = (int) number;
                if (bitOf[way] == 0) {
                    if (size == MOST_WAYS_OF_SIGN) {
                        return false;
                    }
                    firstTold = size == 0 ? way : firstTold;
                    bitOf[way] = 1 << size;
                    size++;
                }
            }
            return true;
        }

        /** From a PLACE, along WAYS of it alone. */
        int fewestAlong(Plain plain, int start) {
            return fewest(plain, start, false);
        }

        /** By any WAYS, back to where it began; a round may as well begin where one of its WAYS does. */
        int fewestRound(Plain plain) {
            return firstTold == NONE ? 0 : fewest(plain, plain.begin(firstTold), true);
        }

        private int fewest(Plain plain, int start, boolean round) {
            if (!plain.hasPlace(start)) {
                return NONE;
            }
            int all = (1 << size) - 1;
            Arrays.fill(far, NONE);
            far[start] = 0;
            queue[0] = start;
            int queued = 1;
            for (int i = 0; i < queued && i < STATES; i++) {
                int state = queue[i];
                int place = state & (1 << PLACE_BITS) - 1;
                int covered = state >>> PLACE_BITS;
                if (covered == all && (!round || place == start)) {
                    return far[state];
                }
                for (int to = 0; to < plain.places; to++) {
                    int way = plain.way(place, to);
                    if (way != NONE && (round || bitOf[way] != 0)) {
                        int then = (covered | bitOf[way]) << PLACE_BITS | to;
                        if (far[then] == NONE && queued < STATES) {
                            far[then] = far[state] + 1;
                            queue[queued] = then;
                            queued++;
                        }
                    }
                }
            }
            return NONE;
        }
    }

    /** A row of numbers of one sort, or MISSING. */
    private static final class Tray {
        private int sort = NONE;
        int many = 0;
        private final long[] numbers = new long[MOST_IN_TRAY];

        boolean isMissing() {
            return sort == NONE;
        }

        void lay(int newSort, int newMany) {
            sort = newSort;
            many = newMany;
            Arrays.fill(numbers, 0);
        }

        long numberAt(int place) {
            return place >= 0 && place < many && place < numbers.length ? numbers[place] : 0;
        }

        /** The number as it is there then. */
        long put(int place, long v) {
            if (place < 0 || place >= many || place >= numbers.length) {
                return 0;
            }
            numbers[place] = cut(v);
            return numbers[place];
        }

        private long cut(long v) {
            if (sort == 0) {
                return (byte) v;
            }
            if (sort == 1) {
                return (short) v;
            }
            return sort == 2 ? (int) v : v;
        }
    }
}
