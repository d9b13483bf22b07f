import java.util.NoSuchElementException;

/** For each promise of the document: ordinary inputs, its edges, wrong inputs. Answers are worked out by hand. */
public final class PromiseTests {
    interface Call {
        long get();
    }

    private static final Class<?> NO_SUCH = NoSuchElementException.class;
    private static final Class<?> ARGUMENT = IllegalArgumentException.class;
    private static final Class<?> STATE = IllegalStateException.class;
    private static final Class<?> BOUNDS = IndexOutOfBoundsException.class;

    private static int wrong = 0;
    private static int promise = 0;

    private static void due(long want, Call call, String name) {
        long got;
        try {
            got = call.get();
        } catch (RuntimeException e) {
            miss(name + " threw " + e);
            return;
        }
        if (got != want) {
            miss(name + " answered " + got + ", due is " + want);
        }
    }

    private static void dueThrow(Class<?> kind, Call call, String name) {
        try {
            long got = call.get();
            miss(name + " answered " + got + ", due is a throw of " + kind.getSimpleName());
        } catch (RuntimeException e) {
            if (e.getClass() != kind) {
                miss(name + " threw " + e + ", due is " + kind.getSimpleName());
            }
        }
    }

    private static void miss(String what) {
        wrong++;
        System.out.println("promise " + promise + ": " + what);
    }

    private static void at(int number) {
        promise = number;
    }

    private static void thePlain() {
        at(1);
        SnowKeeps fresh = new SnowKeeps();
        due(0, () -> fresh.count(1), "PLACES at first");
        due(0, () -> fresh.count(0), "LINES at first");
        due(0, () -> fresh.count(7), "tape at first");
        due(20, () -> fresh.count(4), "KEEP without a plain");
        due(0, () -> fresh.count(8), "no storm at first");
        for (int i = 0; i < 4; i++) {
            int tray = i;
            dueThrow(STATE, () -> fresh.perform(tray), "tray " + i + " is MISSING");
        }
        for (int i = 0; i < 3; i++) {
            int image = i;
            dueThrow(STATE, () -> { fresh.restore(image); return 0; }, "no image " + i);
        }
        at(2);
        SnowKeeps fed = new SnowKeeps();
        for (int i = 1; i <= 30; i++) {
            int have = 20 * i;
            due(have, () -> fed.feed(0x20202020, 0x20202020, 0x20202020, 0x20202020, 0x20202020), "feed " + i);
        }
        due(-1, () -> fed.feed(1, 2, 3, 4, 5), "feed beyond 600");
        due(600, () -> fed.count(7), "tape is full");
        due(-12, () -> fed.plain(600), "600 blanks");
        due(600, () -> fed.fault(1), "the end of 600 blanks");
        SnowKeeps order = new SnowKeeps();
        due(20, () -> order.feed(0x706c6163, 0x65732033, 0x3b777777, 0, 0), "places 3;www");
        due(-12, () -> order.plain(13), "a fault behind the line");
        due(9, () -> order.fault(1), "the highest byte comes first");
        at(3);
        SnowKeeps told = new SnowKeeps();
        due(8, () -> Kit.tell(told, Kit.RING), "eight lines");
        due(0, () -> told.count(7), "the tape is empty then");
        told.step(0, 1);
        due(-13, () -> Kit.tell(told, "places 11;"), "a fault");
        due(0, () -> told.count(7), "the tape is empty behind a fault");
        due(1, () -> told.count(5), "all else stays");
        due(4, () -> told.count(1), "all else stays, places");
        due(1, () -> Kit.tell(told, "places 2;"), "another plain");
        due(0, () -> told.count(5), "fresh snow");
        due(0, () -> told.count(6), "no steps");
        due(0, () -> told.wolves(), "wolves forget");
        due(20, () -> told.count(4), "KEEP is 20 again");
        Kit.feed(told, "places 2;");
        dueThrow(ARGUMENT, () -> told.plain(21), "more than the tape has");
        dueThrow(ARGUMENT, () -> told.plain(-1), "below 0");
        due(20, () -> told.count(7), "a throw changes nothing");
        due(1, () -> told.plain(20), "blanks behind");
        due(-12, () -> told.plain(0), "no bytes");
        at(4);
        due(2, () -> told.fault(0), "fault of the empty text");
        due(0, () -> told.fault(1), "its place");
        due(-1, () -> told.fault(2), "another what");
        due(-1, () -> told.fault(-1), "another what below");
        due(0, () -> fresh.fault(0), "none at first");
        due(-1, () -> fresh.fault(1), "no place at first");
        Kit.tell(told, "places 2;");
        due(0, () -> told.fault(0), "none behind a good text");
        due(-1, () -> told.fault(1), "no place behind a good text");
    }

    private static void pathsAndWalkers() {
        SnowKeeps s = Kit.walked();
        at(5);
        due(3, () -> s.path(3, 0), "first");
        due(0, () -> s.path(3, 1), "second");
        due(2, () -> s.path(2, 2), "there");
        due(0, () -> s.path(2, 3), "back");
        dueThrow(NO_SUCH, () -> s.path(4, 0), "no such path");
        dueThrow(NO_SUCH, () -> s.path(-1, 9), "no such path first");
        dueThrow(ARGUMENT, () -> s.path(0, 4), "another what");
        dueThrow(ARGUMENT, () -> s.path(0, -1), "another what below");
        at(6);
        SnowKeeps island = Kit.of("places 5;path 0 1;path 2 1;path 3 2;");
        due(3, () -> island.distance(0, 3), "along three");
        due(3, () -> island.distance(3, 0), "either way");
        due(0, () -> island.distance(4, 4), "to itself");
        due(-1, () -> island.distance(0, 4), "no way");
        dueThrow(NO_SUCH, () -> island.distance(5, 0), "no place");
        dueThrow(NO_SUCH, () -> island.distance(0, -1), "no place either");
        at(7);
        due(3, () -> s.walker(0, 0), "where");
        due(2, () -> s.walker(1, 1), "steps");
        due(3, () -> s.walker(0, 2), "prints");
        due(2, () -> s.walker(1, 3), "from where");
        due(-1, () -> Kit.of(Kit.RING).walker(1, 3), "no print");
        dueThrow(NO_SUCH, () -> s.walker(2, 9), "no walker");
        dueThrow(NO_SUCH, () -> s.walker(-1, 0), "no walker below");
        dueThrow(ARGUMENT, () -> s.walker(0, 4), "another what");
        dueThrow(ARGUMENT, () -> s.walker(0, -1), "another what below");
        at(8);
        due(2, () -> s.print(1, 0), "from");
        due(3, () -> s.print(1, 1), "to");
        due(1, () -> s.print(1, 2), "whose");
        dueThrow(NO_SUCH, () -> s.print(5, 9), "no print");
        dueThrow(NO_SUCH, () -> s.print(-1, 0), "no print below");
        dueThrow(ARGUMENT, () -> s.print(0, 3), "another what");
        dueThrow(ARGUMENT, () -> s.print(0, -1), "another what below");
        at(9);
        dueThrow(ARGUMENT, () -> s.keep(0), "0");
        dueThrow(ARGUMENT, () -> s.keep(61), "61");
        due(5, () -> s.keep(60), "60");
        due(60, () -> s.count(4), "KEEP is 60");
        due(2, () -> s.keep(2), "the eldest go");
        due(2, () -> s.print(0, 0), "the latest stay");
        due(1, () -> s.keep(1), "1");
        due(1, () -> s.step(0, 2), "one is kept");
    }

    private static void steps() {
        at(10);
        SnowKeeps s = Kit.of("places 3;path 0 1;walker 0;keep 2;storm 3 1;");
        due(1, () -> s.step(0, 1), "a step");
        due(-1, () -> s.step(1, 9), "no walker is told first");
        due(-1, () -> s.step(-1, 0), "no walker below");
        due(-2, () -> s.step(0, 3), "no place");
        due(-2, () -> s.step(0, -1), "no place below");
        due(-2, () -> s.step(0, 2), "no path");
        due(-2, () -> s.step(0, 1), "where it is");
        due(2, () -> s.step(0, 0), "a second");
        due(1, () -> s.step(0, 1), "one goes for KEEP, one by the storm");
        due(2, () -> s.step(0, 0), "no storm");
        due(4, () -> s.count(6), "four steps");
        at(11);
        SnowKeeps t = Kit.walked();
        due(5, () -> t.storm(0), "none go");
        due(3, () -> t.storm(2), "the two eldest");
        due(1, () -> t.print(0, 0), "the third is the eldest");
        dueThrow(ARGUMENT, () -> t.storm(4), "more than PRINTS");
        dueThrow(ARGUMENT, () -> t.storm(-1), "below 0");
        due(0, () -> t.storm(3), "all");
        at(12);
        due(0, () -> t.noon(), "none");
        SnowKeeps u = Kit.walked();
        due(5, () -> u.noon(), "five");
        due(0, () -> u.count(5), "none is left");
        due(5, () -> u.wolves(), "wolves remember them");
        due(1, () -> u.step(0, 2), "snow goes on");
        at(13);
        SnowKeeps r = Kit.of("places 3;path 0 1;path 1 2;walker 0 beat 1 2 0;walker 2 beat 1;walker 1;");
        due(2, () -> r.rounds(1), "both step");
        due(1, () -> r.rounds(1), "the second can't");
        due(1, () -> r.walker(1, 0), "where it stays");
        due(1, () -> r.rounds(2), "0 can't be from 2, then 1");
        due(1, () -> r.walker(0, 0), "at 1 again");
        dueThrow(ARGUMENT, () -> r.rounds(0), "0");
        dueThrow(ARGUMENT, () -> r.rounds(61), "61");
        due(40, () -> Kit.of("places 2;path 0 1;walker 0 beat 1 0 0;").rounds(60), "60 turns");
        at(14);
        due(1, () -> r.beat(0, -1), "four turns of three");
        due(2, () -> r.beat(0, 1), "the second place");
        due(0, () -> r.beat(2, -1), "without a beat");
        dueThrow(ARGUMENT, () -> r.beat(2, 0), "no such k without a beat");
        dueThrow(ARGUMENT, () -> r.beat(0, 3), "no such k");
        dueThrow(ARGUMENT, () -> r.beat(0, -2), "no such k below");
        dueThrow(NO_SUCH, () -> r.beat(3, 9), "no walker");
        at(15);
        due(1, () -> new SnowKeeps().again(0), "nothing moves");
        SnowKeeps a = Kit.of("places 3;path 0 1;path 1 2;walker 0 beat 1 2 1 0;keep 3;storm 4 2;wolves 2;");
        due(4, () -> a.again(0), "a beat of four");
        due(3, () -> a.again(1), "with three prints first");
        due(0, () -> a.count(6), "as if");
        due(-1, () -> Kit.of("places 2;path 0 1;walker 0 beat 1 0 1 0 1 0 1 0;storm 99 1;keep 60;").again(0), "too long");
        due(-1, () -> Kit.of("places 2;path 0 1;walker 0 beat 1 0;storm 61 60;keep 60;").again(1), "122 turns by the storm's number");
        due(118, () -> Kit.of("places 2;path 0 1;walker 0 beat 1 0;storm 59 60;keep 60;").again(0), "118 turns by the storm's number");
        due(20, () -> Kit.of("places 2;path 0 1;walker 0 beat 1 0;").again(1), "20 till the snow is full");
        due(2, () -> Kit.of("places 2;path 0 1;walker 0 beat 1 0;").again(0), "then two");
        dueThrow(ARGUMENT, () -> a.again(2), "another what");
        dueThrow(ARGUMENT, () -> a.again(-1), "another what below");
    }

    private static void toldSteps() {
        SnowKeeps s = Kit.walked();
        Kit.fill(s, 0, 3, 2, 101, 2);
        at(16);
        due(2, () -> s.judge(0, 0), "the third can't be");
        due(2, () -> s.judge(0, 1), "no path");
        due(5, () -> s.judge(0, 2), "prints");
        due(5, () -> s.judge(0, 3), "ways: 1>2, 2>3, 3>0, 3>2, 0>1");
        due(5, () -> s.count(6), "as if");
        Kit.fill(s, 1, 3, -1);
        due(0, () -> s.judge(1, 0), "below 0");
        due(1, () -> s.judge(1, 1), "below 0: 1");
        Kit.fill(s, 1, 3, 200);
        due(1, () -> s.judge(1, 1), "no walker");
        Kit.fill(s, 1, 3, 4294967298L);
        due(1, () -> s.judge(1, 1), "far above");
        Kit.fill(s, 1, 3);
        due(-1, () -> s.judge(1, 0), "nothing told");
        due(0, () -> s.judge(1, 1), "no why");
        due(4, () -> s.judge(1, 3), "unlike ways now");
        dueThrow(NO_SUCH, () -> s.judge(4, 9), "no tray");
        dueThrow(NO_SUCH, () -> s.judge(-1, 0), "no tray below");
        dueThrow(STATE, () -> s.judge(2, 9), "missing");
        dueThrow(ARGUMENT, () -> s.judge(0, 4), "another what");
        dueThrow(ARGUMENT, () -> s.judge(0, -1), "another what below");
        at(19);
        due(1, () -> s.behind(0, 3, 2), "a print back");
        due(1, () -> s.behind(0, 2, 3), "one of two went");
        due(0, () -> s.behind(0, 0, 2), "no path");
        dueThrow(NO_SUCH, () -> s.behind(4, 0, 1), "no tray");
        dueThrow(NO_SUCH, () -> s.behind(2, 4, 0), "no place ahead of missing");
        dueThrow(NO_SUCH, () -> s.behind(0, 0, 4), "no place");
        dueThrow(STATE, () -> s.behind(2, 0, 1), "missing");
        at(17);
        due(2, () -> s.perform(0), "two are made");
        due(2, () -> s.walker(0, 0), "walker 0");
        due(1, () -> s.walker(1, 0), "walker 1");
        due(7, () -> s.count(6), "seven steps");
        dueThrow(NO_SUCH, () -> s.perform(4), "no tray");
        dueThrow(STATE, () -> s.perform(2), "missing");
        at(18);
        SnowKeeps d = Kit.of("places 4;path 0 1;path 0 2;path 0 3;walker 0;walker 3;");
        int[] draws = draws(1, 6);
        due(3, () -> d.day(1, 3), "three steps");
        due(3, () -> d.count(6), "counted");
        int[] where = {0, 3};
        for (int i = 0; i < 6; i += 2) {
            int w = draws[i] % 2;
            where[w] = where[w] == 0 ? 1 + draws[i + 1] % 3 : 0;
        }
        due(where[0], () -> d.walker(0, 0), "walker 0 by its draws");
        due(where[1], () -> d.walker(1, 0), "walker 1 by its draws");
        due(0, () -> Kit.of("places 2;walker 1;").day(-7, 60), "nowhere to go");
        dueThrow(ARGUMENT, () -> d.day(1, 61), "61 times");
        dueThrow(ARGUMENT, () -> new SnowKeeps().day(1, 0), "0 times ahead of no walkers");
        dueThrow(STATE, () -> Kit.of("places 2;path 0 1;").day(1, 1), "no walkers");
    }

    private static int[] draws(int seed, int many) {
        int[] draws = new int[many];
        int x = seed;
        for (int i = 0; i < many; i++) {
            x = x * 1103515245 + 12345;
            draws[i] = x >>> 16;
        }
        return draws;
    }

    private static void prints() {
        SnowKeeps s = Kit.walked();
        at(20);
        due(2, () -> s.prints(2, 3), "two");
        due(0, () -> s.prints(3, 2), "none back");
        due(0, () -> s.prints(0, 2), "no path");
        due(0, () -> s.prints(1, 1), "the same place");
        dueThrow(NO_SUCH, () -> s.prints(4, 0), "no place");
        dueThrow(NO_SUCH, () -> s.prints(0, 4), "no place either");
        at(21);
        due(1, () -> s.age(2, 3), "one is younger");
        due(0, () -> s.age(3, 0), "the latest");
        due(4, () -> s.age(0, 1), "the eldest");
        due(-1, () -> s.age(1, 0), "none");
        dueThrow(NO_SUCH, () -> s.age(0, -1), "no place");
        at(22);
        due(8, () -> s.seen(2, true), "from 2 to 3");
        due(4, () -> s.seen(3, false), "to 3 from 2");
        due(2, () -> s.seen(2, false), "to 2 from 1");
        dueThrow(NO_SUCH, () -> s.seen(4, true), "no place");
        at(23);
        due(0, () -> s.bare(), "all have prints");
        s.storm(1);
        due(1, () -> s.bare(), "the first is bare");
        due(15, () -> Kit.of(Kit.RING).bare(), "all are bare");
        at(24);
        SnowKeeps t = Kit.walked();
        due(13, () -> t.crossing(0, 1), "0, 2, 3");
        due(15, () -> t.crossing(0, 0), "its own");
        dueThrow(NO_SUCH, () -> t.crossing(0, 2), "no walker");
        dueThrow(NO_SUCH, () -> t.crossing(2, 0), "no walker either");
        at(25);
        due(4, () -> t.fades(2, 3), "the later of two");
        due(1, () -> t.fades(0, 1), "the eldest");
        due(0, () -> t.fades(1, 0), "none");
        SnowKeeps roomy = Kit.walked();
        roomy.keep(8);
        due(4, () -> roomy.fades(0, 1), "three more fit");
        dueThrow(NO_SUCH, () -> t.fades(4, 0), "no place");
        at(26);
        due(4, () -> t.hired(0), "walker 0");
        due(5, () -> t.hired(1), "walker 1");
        due(0, () -> Kit.of(Kit.RING).hired(1), "none");
        dueThrow(NO_SUCH, () -> t.hired(2), "no walker");
        at(27);
        due(3, () -> t.remains(0, 0), "none go");
        due(2, () -> t.remains(0, 2), "one goes");
        due(0, () -> t.remains(1, Integer.MAX_VALUE), "all go");
        due(3, () -> roomy.remains(0, 3), "three more fit");
        dueThrow(ARGUMENT, () -> t.remains(0, -1), "below 0");
        dueThrow(NO_SUCH, () -> t.remains(2, -1), "no walker first");
        at(28);
        due(2, () -> t.hires(0, 3), "4 by 3");
        due(1, () -> t.hires(0, 4), "4 by 4");
        due(5, () -> t.hires(1, 1), "5 by 1");
        due(1, () -> t.hires(1, 30), "5 by 30");
        due(0, () -> Kit.of(Kit.RING).hires(0, 9), "none");
        dueThrow(ARGUMENT, () -> t.hires(0, 0), "0 each");
        dueThrow(ARGUMENT, () -> t.hires(0, 31), "31 each");
        dueThrow(NO_SUCH, () -> t.hires(2, 0), "no walker first");
    }

    private static void wolvesRemember() {
        at(29);
        SnowKeeps s = Kit.of("places 2;path 0 1;walker 0;keep 1;wolves 3;storm 2 1;");
        due(0, () -> s.wolves(), "none");
        for (int i = 0; i < 2; i++) {
            s.step(0, 1);
            s.step(0, 0);
        }
        due(3, () -> s.wolves(), "three of four");
        due(0, () -> s.count(5), "the snow keeps none");
        SnowKeeps many = Kit.of("places 2;path 0 1;walker 0 beat 1 0;wolves 99;");
        many.rounds(60);
        many.rounds(60);
        due(99, () -> many.wolves(), "99 of 120");
        at(30);
        due(1, () -> s.wolf(0, 0), "from");
        due(0, () -> s.wolf(0, 1), "to");
        due(0, () -> s.wolf(2, 2), "whose");
        due(1, () -> s.wolf(2, 0), "the latest");
        due(1, () -> many.wolf(0, 0), "the 22nd of 120");
        due(1, () -> many.wolf(98, 0), "the 120th of 120");
        dueThrow(NO_SUCH, () -> s.wolf(3, 9), "no such one");
        dueThrow(NO_SUCH, () -> s.wolf(-1, 0), "no such one below");
        dueThrow(ARGUMENT, () -> s.wolf(0, 3), "another what");
        dueThrow(ARGUMENT, () -> s.wolf(0, -1), "another what below");
    }

    private static void whoFollows() {
        SnowKeeps s = Kit.walked();
        at(31);
        due(4, () -> s.hound(0, 0), "0>1 1>2 2>3 3>0");
        due(0, () -> s.hound(0, 1), "back at 0");
        due(2, () -> s.hound(2, 0), "the eldest 2>3, then 3>0; 0>1 is elder");
        due(0, () -> Kit.of(Kit.RING).hound(3, 0), "none");
        due(3, () -> Kit.of(Kit.RING).hound(3, 1), "stays");
        dueThrow(NO_SUCH, () -> s.hound(4, 9), "no place");
        dueThrow(ARGUMENT, () -> s.hound(0, 2), "another what");
        dueThrow(ARGUMENT, () -> s.hound(0, -1), "another what below");
        at(32);
        due(1, () -> s.hunter(0, 0), "nowhere yet");
        due(2, () -> s.hunter(0, 1), "at 1");
        due(1, () -> s.hunter(0, 60), "round and round");
        due(0, () -> Kit.of(Kit.RING).hunter(0, 1), "he can't");
        dueThrow(ARGUMENT, () -> s.hunter(0, 61), "61");
        dueThrow(ARGUMENT, () -> s.hunter(0, -1), "below 0");
        dueThrow(NO_SUCH, () -> s.hunter(4, 61), "no place first");
        at(33);
        due(3, () -> s.hunts(0, 3), "three");
        due(0, () -> s.hunts(1, 1), "none");
        s.storm(1);
        due(-1, () -> s.hunts(0, 1), "gone");
        dueThrow(NO_SUCH, () -> s.hunts(0, 4), "no place");
        at(34);
        SnowKeeps t = Kit.of("places 4;path 0 1;path 1 2;path 2 3;path 3 0;walker 0;walker 3;keep 1;");
        t.step(1, 2);
        t.step(0, 1);
        due(0, () -> t.meets(2, 2), "at once");
        due(-1, () -> t.meets(0, 3), "the hunter comes to 1, the wolf to 2");
        SnowKeeps u = Kit.of("places 3;path 0 1;path 2 1;walker 0;walker 2;keep 1;");
        u.step(1, 1);
        u.step(0, 1);
        due(1, () -> u.meets(0, 2), "the wolf remembers what the snow keeps not");
        due(-1, () -> u.meets(2, 0), "the hunter has no print there");
        dueThrow(NO_SUCH, () -> u.meets(3, 0), "no place");
        dueThrow(NO_SUCH, () -> u.meets(0, 3), "no place either");
        at(35);
        SnowKeeps b = Kit.walked();
        due(1, () -> b.blur(0, 0, 0), "where it is");
        due(2, () -> b.blur(0, 1, 0), "two places");
        due(1, () -> b.blur(0, 1, 1), "by one step");
        due(2, () -> b.blur(0, 1, 10), "to 2");
        due(-1, () -> b.blur(0, 1, 11), "no second");
        due(0, () -> Kit.of(Kit.RING).blur(0, 0, 1), "no step");
        due(0, () -> Kit.of("places 1;walker 0;").blur(0, 3, 0), "a hunter can't go");
        dueThrow(ARGUMENT, () -> b.blur(0, 4, 0), "n");
        dueThrow(ARGUMENT, () -> b.blur(0, -1, 0), "n below 0");
        dueThrow(ARGUMENT, () -> b.blur(0, 1, 13), "what 13");
        dueThrow(ARGUMENT, () -> b.blur(0, 1, 9), "what 9");
        dueThrow(ARGUMENT, () -> b.blur(0, 1, 2), "what 2");
        dueThrow(ARGUMENT, () -> b.blur(0, 1, -1), "what -1");
        dueThrow(NO_SUCH, () -> b.blur(2, 9, 0), "no walker first");
    }

    private static void guides() {
        SnowKeeps s = Kit.of(Kit.RING);
        at(36);
        due(3, () -> s.homes(1, 0), "three of five");
        due(1, () -> s.homes(2, 0), "two guides");
        due(1, () -> s.homes(1, 1), "one other");
        due(0, () -> s.homes(3, 3), "not at all");
        SnowKeeps wide = Kit.of("places 1;keep 60;");
        // out d, back: the first print is asked for when d + (d - 1) prints came with it: 2 d - 1 is at most 60
        due(30, () -> wide.homes(1, 0), "thirty of sixty");
        due(0, () -> Kit.of("places 1;keep 3;").homes(4, 0), "four guides, three prints");
        due(1, () -> Kit.of("places 1;keep 4;").homes(4, 0), "four guides, four prints");
        due(10, () -> new SnowKeeps().homes(1, 0), "KEEP is 20 without a plain");
        dueThrow(ARGUMENT, () -> s.homes(0, 0), "no guides");
        dueThrow(ARGUMENT, () -> s.homes(5, 0), "five guides");
        dueThrow(ARGUMENT, () -> s.homes(1, -1), "others below 0");
        dueThrow(ARGUMENT, () -> s.homes(1, 10), "ten others");
        at(37);
        Kit.fill(s, 0, 1, 3, 1);
        due(1, () -> s.bargain(0), "one alone, who goes farther");
        Kit.fill(s, 0, 1, 2, 1);
        due(3, () -> s.bargain(0), "both");
        Kit.fill(s, 0, 1, 3, 3);
        due(1, () -> s.bargain(0), "alike: the least as bits");
        Kit.fill(s, 0, 1, 4);
        due(0, () -> s.bargain(0), "none comes home");
        Kit.fill(s, 0, 1, 0, 0, 4, 0);
        due(11, () -> s.bargain(0), "who stays at home is home");
        Kit.fill(s, 0, 1, 30);
        due(0, () -> s.bargain(0), "30 is a number");
        Kit.fill(s, 0, 1, 31);
        dueThrow(ARGUMENT, () -> s.bargain(0), "31");
        Kit.fill(s, 0, 1, 0, -1);
        dueThrow(ARGUMENT, () -> s.bargain(0), "below 0");
        Kit.fill(s, 0, 1);
        dueThrow(ARGUMENT, () -> s.bargain(0), "no numbers");
        Kit.fill(s, 0, 1, 0, 0, 0, 0, 0);
        dueThrow(ARGUMENT, () -> s.bargain(0), "five numbers");
        dueThrow(STATE, () -> s.bargain(1), "missing");
        dueThrow(NO_SUCH, () -> s.bargain(4), "no tray");
        at(38);
        SnowKeeps t = Kit.walked();
        due(2, () -> t.retrace(0, 0), "the third is gone then");
        due(1, () -> t.retrace(0, 1), "ends at 1");
        due(5, () -> t.count(6), "as if");
        due(0, () -> Kit.of(Kit.RING).retrace(1, 0), "none");
        due(2, () -> Kit.of(Kit.RING).retrace(1, 1), "stays");
        SnowKeeps stormy = Kit.of("places 2;path 0 1;walker 0;storm 4 2;");
        stormy.step(0, 1);
        stormy.step(0, 0);
        stormy.step(0, 1);
        due(1, () -> stormy.retrace(0, 0), "the storm takes the rest");
        dueThrow(ARGUMENT, () -> t.retrace(0, 2), "another what");
        dueThrow(ARGUMENT, () -> t.retrace(0, -1), "another what below");
        dueThrow(NO_SUCH, () -> t.retrace(2, 2), "no walker first");
        at(39);
        due(2, () -> t.goesBack(0), "two steps");
        due(1, () -> t.walker(0, 0), "it is there");
        due(7, () -> t.count(6), "they are steps");
        due(2, () -> t.print(4, 0), "2>1 is the latest");
        due(5, () -> t.walker(0, 1), "of its own");
        dueThrow(NO_SUCH, () -> t.goesBack(2), "no walker");
    }

    /** A bow: 0>1 1>2 2>0 0>3 3>4 4>0, walked once from 0. */
    private static SnowKeeps bow() {
        SnowKeeps s = Kit.of("places 5;path 0 1;path 1 2;path 2 0;path 0 3;path 3 4;path 4 0;walker 0 beat 1 2 0 3 4 0;keep 30;");
        s.rounds(6);
        return s;
    }

    private static void fromWhatIsLeft() {
        SnowKeeps s = bow();
        at(40);
        due(2, () -> s.rows(0), "either loop first");
        due(1, () -> s.rows(1), "1 2 0 3 4 0 1");
        SnowKeeps ring = Kit.walked();
        due(0, () -> ring.rows(0), "2>3 twice");
        due(1, () -> ring.rows(2), "from 2");
        due(1, () -> Kit.of(Kit.RING).rows(3), "no prints");
        SnowKeeps star = Kit.of("places 8;path 0 1;path 0 2;path 0 3;path 0 4;path 0 5;path 0 6;path 0 7;"
            + "walker 0 beat 1 0 2 0 3 0 4 0;walker 0 beat 5 0 6 0 7 0;keep 60;");
        star.rounds(6);
        star.step(0, 4);
        due(0, () -> star.rows(1), "13 prints, the row ends at 4");
        due(5040 / 7, () -> star.rows(0), "the last is sure");
        star.step(0, 0);
        due(5040, () -> star.rows(0), "14 prints: 7 loops in any order");
        star.step(0, 1);
        due(-1000, () -> star.rows(0), "15 prints");
        dueThrow(NO_SUCH, () -> s.rows(5), "no place");
        dueThrow(NO_SUCH, () -> star.rows(-1), "no place, too many");
        at(41);
        int[] second = {0, 3, 4, 0, 1, 2, 0, -1};
        for (int i = 0; i < 8; i++) {
            int k = i;
            due(second[k], () -> s.row(0, 1, k), "place " + k + " of the second row");
        }
        due(1, () -> s.row(0, 0, 1), "the first row goes to 1 first");
        due(-1, () -> s.row(0, 2, 0), "no third row");
        due(-1, () -> s.row(0, Long.MAX_VALUE, 0), "no such row");
        due(-1, () -> s.row(0, -1, 0), "no row below 0");
        due(-1, () -> s.row(0, 0, -1), "no place below 0");
        due(-1, () -> s.row(0, 0, Integer.MAX_VALUE), "no such place of it");
        due(-1, () -> star.row(0, 0, 0), "too many prints");
        dueThrow(NO_SUCH, () -> s.row(5, 0, 0), "no place");
        at(42);
        due(31, () -> s.starts(), "anywhere on the bow");
        due(4, () -> ring.starts(), "from 2");
        due(15, () -> Kit.of(Kit.RING).starts(), "anywhere without prints");
        due(0, () -> new SnowKeeps().starts(), "without a plain");
        due(-1000, () -> star.starts(), "too many");
        at(43);
        due(4, () -> ring.sure(2, true), "2>3 first");
        due(4, () -> ring.sure(2, false), "2>3 last");
        due(-1, () -> ring.sure(0, true), "no rows");
        due(-1, () -> s.sure(0, true), "unlike ones first");
        due(-1, () -> s.sure(0, false), "unlike ones last");
        due(2, () -> s.sure(1, true), "1>2 first");
        due(0, () -> s.sure(1, false), "0>1 last");
        due(-1, () -> Kit.of(Kit.RING).sure(0, false), "no ways");
        due(-1, () -> star.sure(0, true), "too many");
        dueThrow(NO_SUCH, () -> s.sure(5, true), "no place");
        at(44);
        due(3, () -> ring.two(0, 2), "three pairs");
        due(0, () -> ring.two(0, 0), "none");
        due(1, () -> Kit.of(Kit.RING).two(1, 3), "nobody went");
        SnowKeeps two = Kit.of("places 2;path 0 1;walker 0;walker 0;keep 60;");
        two.step(0, 1);
        two.step(1, 1);
        due(1, () -> two.two(0, 0), "each one, all alike");
        for (int i = 0; i < 3; i++) {
            two.step(0, 0);
            two.step(0, 1);
        }
        due(8, () -> two.count(5), "eight prints");
        // 0>1 five times, 1>0 thrice: the one goes 2 j + 1 steps, the other the rest, j from 0 to 3
        due(4, () -> two.two(0, 0), "eight prints");
        two.step(0, 0);
        due(-1000, () -> two.two(0, 0), "nine prints");
        dueThrow(NO_SUCH, () -> two.two(0, 2), "no place");
        dueThrow(NO_SUCH, () -> two.two(2, 0), "no place either");
        at(45);
        SnowKeeps c = Kit.of(Kit.RING);
        due(1, () -> c.clear(0, 0, true), "the empty row");
        due(16, () -> c.clear(0, 4, false), "sixteen");
        due(14, () -> c.clear(0, 4, true), "two are alike");
        due(32, () -> c.clear(0, 5, false), "all kept, whatever KEEP");
        dueThrow(ARGUMENT, () -> c.clear(0, 6, true), "six");
        dueThrow(ARGUMENT, () -> c.clear(0, -1, true), "below 0");
        dueThrow(NO_SUCH, () -> c.clear(4, 6, true), "no place first");
    }

    private static void signs() {
        SnowKeeps s = Kit.of(Kit.RING);
        at(46);
        due(1, () -> s.signs(0, 0), "the bare snow");
        due(3, () -> s.signs(0, 1), "two more");
        due(7, () -> s.signs(0, 2), "four more");
        SnowKeeps one = Kit.of("places 4;path 0 1;path 1 2;path 2 3;path 3 0;keep 1;");
        due(9, () -> one.signs(0, 6), "each way alone, and none");
        SnowKeeps big = Kit.of("places 6;path 0 1;path 0 2;path 0 3;path 0 4;path 0 5;path 1 2;path 1 3;path 1 4;path 1 5;"
            + "path 2 3;path 2 4;path 2 5;path 3 4;path 3 5;path 4 5;keep 60;");
        due(-1000, () -> big.signs(0, 6), "too many");
        due(1 + 5 + 25 + 125 - 5, () -> big.signs(0, 3), "0>k>0>k leaves what 0>k>0 leaves");
        dueThrow(ARGUMENT, () -> s.signs(0, 7), "seven");
        dueThrow(ARGUMENT, () -> s.signs(0, -1), "below 0");
        dueThrow(NO_SUCH, () -> s.signs(4, 7), "no place first");
        at(47);
        Kit.fill(s, 0, 0, 2, 0, 2);
        due(2, () -> s.writes(0, 0), "0>1 1>2");
        due(-1, () -> s.writes(1, 0), "not from 1");
        Kit.fill(s, 1, 0, 0, 1, 2);
        due(4, () -> s.writes(0, 1), "0>1>0>1>2");
        Kit.fill(s, 2, 0);
        due(0, () -> s.writes(2, 2), "no ways");
    }

    private static void moreSigns() {
        SnowKeeps s = Kit.of(Kit.RING);
        Kit.fill(s, 0, 0, 2, 0, 2);
        Kit.fill(s, 2, 0);
        at(47);
        dueThrow(NO_SUCH, () -> s.writes(4, 0), "no place");
        dueThrow(NO_SUCH, () -> s.writes(4, 3), "no place ahead of missing");
        dueThrow(NO_SUCH, () -> s.writes(0, 4), "no tray");
        dueThrow(STATE, () -> s.writes(0, 3), "missing");
        SnowKeeps full = Kit.of(Kit.RING);
        Kit.fill(full, 0, 3, 0, 1, 2, 3, 4, 5, 6, 7, 7, 0);
        due(8, () -> { full.keep(8); return full.writes(0, 0); }, "eight unlike ones in eight steps");
        due(-1, () -> { full.keep(7); return full.writes(0, 0); }, "KEEP is too small");
        Kit.fill(full, 1, 3, 8);
        dueThrow(ARGUMENT, () -> full.writes(0, 1), "no way");
        Kit.fill(full, 1, 3, -1);
        dueThrow(ARGUMENT, () -> full.writes(0, 1), "no way below");
        Kit.fill(full, 1, 3, 4294967296L);
        dueThrow(ARGUMENT, () -> full.writes(0, 1), "far above");
        SnowKeeps nine = Kit.of("places 6;path 0 1;path 1 2;path 2 3;path 3 4;path 4 5;");
        Kit.fill(nine, 0, 0, 0, 1, 2, 3, 4, 5, 6, 7, 8);
        dueThrow(ARGUMENT, () -> nine.writes(0, 0), "nine unlike ones");
        at(48);
        due(1, () -> s.pens(0), "from 0");
        due(15, () -> s.pens(2), "from anywhere");
        due(15, () -> { full.keep(8); return full.pens(0); }, "a round from anywhere");
        due(0, () -> { full.keep(7); return full.pens(0); }, "KEEP is too small");
        dueThrow(NO_SUCH, () -> s.pens(-1), "no tray");
        dueThrow(STATE, () -> s.pens(3), "missing");
        dueThrow(ARGUMENT, () -> nine.pens(0), "nine unlike ones");
        at(49);
        due(4, () -> s.patrol(0), "round the ring or back");
        due(0, () -> s.patrol(2), "no ways");
        due(8, () -> full.patrol(0), "all ways");
        SnowKeeps apart = Kit.of("places 4;path 0 1;path 2 3;");
        Kit.fill(apart, 0, 0, 0, 2);
        due(-1, () -> apart.patrol(0), "apart");
        Kit.fill(apart, 1, 0, 3);
        due(2, () -> apart.patrol(1), "there and back");
        dueThrow(NO_SUCH, () -> s.patrol(4), "no tray");
        dueThrow(STATE, () -> s.patrol(3), "missing");
        dueThrow(ARGUMENT, () -> nine.patrol(0), "nine unlike ones");
        at(50);
        due(1, () -> s.tends(0) ? 1 : 0, "four of five");
        due(1, () -> { s.keep(4); return s.tends(0) ? 1 : 0; }, "four of four");
        due(0, () -> { s.keep(3); return s.tends(0) ? 1 : 0; }, "four of three");
        due(1, () -> s.tends(2) ? 1 : 0, "nothing to tend");
        due(0, () -> apart.tends(0) ? 1 : 0, "there is none");
        dueThrow(NO_SUCH, () -> s.tends(4) ? 1 : 0, "no tray");
        dueThrow(STATE, () -> s.tends(3) ? 1 : 0, "missing");
        dueThrow(ARGUMENT, () -> nine.tends(0) ? 1 : 0, "nine unlike ones");
        at(51);
        due(-1, () -> s.crowd(0), "not even alone");
        due(0, () -> { s.keep(7); return s.crowd(0); }, "alone");
        due(1, () -> { s.keep(8); return s.crowd(0); }, "one other");
        due(60, () -> s.crowd(2), "no ways");
        due(-1, () -> apart.crowd(0), "there is none");
        due(29, () -> { apart.keep(60); return apart.crowd(1); }, "60 by 2");
        dueThrow(NO_SUCH, () -> s.crowd(4), "no tray");
        dueThrow(STATE, () -> s.crowd(3), "missing");
        dueThrow(ARGUMENT, () -> nine.crowd(0), "nine unlike ones");
        at(52);
        SnowKeeps w = Kit.walked();
        Kit.fill(w, 0, 0, 2, 4);
        due(3, () -> w.lasts(0), "1>2 is the third");
        Kit.fill(w, 0, 0, 2, 5);
        due(0, () -> w.lasts(0), "3>2 has none");
        Kit.fill(w, 0, 0);
        due(-1, () -> w.lasts(0), "no ways");
        dueThrow(NO_SUCH, () -> w.lasts(4), "no tray");
        dueThrow(STATE, () -> w.lasts(3), "missing");
        dueThrow(ARGUMENT, () -> nine.lasts(0), "nine unlike ones");
        at(53);
        Kit.fill(w, 1, 0, 9, 9, 9, 9, 2);
        due(4, () -> w.reads(1), "four ways");
    }

    /** What reads() put there is seen by write-free calls: the sign of a tray read back lasts as its ways do. */
    private static void readBack() {
        at(53);
        SnowKeeps w = Kit.walked();
        w.tray(1, 0, 2);
        due(2, () -> w.reads(1), "two places");
        // ways 0 and 2 came: 0>1 is the eldest
        due(1, () -> w.lasts(1), "0 and 2");
        due(1, () -> w.pens(1), "0 and 2 are written from 0");
        w.storm(1);
        due(2, () -> w.reads(1), "now 2 and 4");
        due(2, () -> w.pens(1), "2 and 4 are written from 1");
        w.tray(1, 0, 0);
        due(0, () -> w.reads(1), "no places");
        w.noon();
        Kit.fill(w, 1, 0, 4);
        due(0, () -> w.reads(1), "no prints");
        due(4, () -> w.pens(1), "its number stays");
        dueThrow(NO_SUCH, () -> w.reads(4), "no tray");
        dueThrow(STATE, () -> w.reads(3), "missing");
    }

    private static void traysAndImages() {
        at(54);
        SnowKeeps s = Kit.walked();
        s.tray(0, 0, 30);
        dueThrow(NO_SUCH, () -> { s.tray(4, 9, 0); return 0; }, "no tray");
        dueThrow(NO_SUCH, () -> { s.tray(-1, 0, 0); return 0; }, "no tray below");
        dueThrow(ARGUMENT, () -> { s.tray(0, 4, 0); return 0; }, "no sort");
        dueThrow(ARGUMENT, () -> { s.tray(0, -1, 0); return 0; }, "no sort below");
        dueThrow(ARGUMENT, () -> { s.tray(0, 0, 31); return 0; }, "31");
        dueThrow(ARGUMENT, () -> { s.tray(0, 0, -1); return 0; }, "below 0");
        due(5, () -> s.write(0, 29, 5), "a throw changed nothing");
        Kit.fill(s, 0, 0, 4);
        s.tray(0, 0, 1);
        due(1, () -> s.pens(0), "zeros again: way 0 from 0");
        at(55);
        long v = 0x0123456789abcdefL;
        s.tray(0, 0, 1);
        due(-17, () -> s.write(0, 0, v), "8 bits");
        due(127, () -> s.write(0, 0, 127), "127");
        due(-128, () -> s.write(0, 0, 128), "128");
        s.tray(0, 1, 1);
        due((short) 0xcdef, () -> s.write(0, 0, v), "16 bits");
        s.tray(0, 2, 1);
        due(0x89abcdef, () -> s.write(0, 0, v), "32 bits");
        s.tray(0, 3, 1);
        due(v, () -> s.write(0, 0, v), "64 bits");
        dueThrow(BOUNDS, () -> s.write(0, 1, 0), "no place");
        dueThrow(BOUNDS, () -> s.write(0, -1, 0), "no place below");
        dueThrow(STATE, () -> s.write(3, 9, 0), "missing first");
        dueThrow(NO_SUCH, () -> s.write(4, 9, 0), "no tray first");
        at(56);
        s.image(0);
        s.step(0, 2);
        s.image(2);
        dueThrow(NO_SUCH, () -> { s.image(3); return 0; }, "no image");
        dueThrow(NO_SUCH, () -> { s.image(-1); return 0; }, "no image below");
        at(57);
        Kit.feed(s, "places 2;");
        s.restore(0);
        due(5, () -> s.count(6), "as at first");
        due(20, () -> s.count(7), "but the tape");
        due(3, () -> s.walker(0, 0), "where it was");
        s.keep(1);
        s.restore(2);
        due(6, () -> s.count(6), "as at second");
        due(5, () -> s.count(4), "KEEP as well");
        due(1, () -> s.plain(20), "another plain");
        due(-12, () -> s.plain(0), "a fault");
        s.restore(0);
        due(4, () -> s.count(1), "the plain as well");
        due(2, () -> s.fault(0), "but the fault");
        due(v, () -> s.write(0, 0, v), "but the trays");
        s.noon();
        s.restore(0);
        due(5, () -> s.count(5), "an image is not used up");
        dueThrow(STATE, () -> { s.restore(1); return 0; }, "none was made");
        dueThrow(NO_SUCH, () -> { s.restore(3); return 0; }, "no image");
        at(58);
        SnowKeeps c = Kit.of("places 3;path 0 1;path 2 1;walker 2 beat 1 2;storm 4 2;wolves 7;keep 9;");
        c.rounds(3);
        c.feed(0, 0, 0, 0, 0);
        int[] want = {7, 3, 2, 1, 9, 3, 3, 20, 4, 2, 7};
        for (int i = 0; i < want.length; i++) {
            int what = i;
            due(want[what], () -> c.count(what), "count(" + what + ")");
        }
        due(-1, () -> c.count(11), "count(11)");
        due(-1, () -> c.count(-1), "count(-1)");
        due(-1, () -> SnowKeeps.NONE, "NONE");
        due(-1000, () -> SnowKeeps.SPENT, "SPENT");
    }

    /** Calls that are the first of their kind on an object, or come behind others that might leave something. */
    private static void freshAndUsed() {
        at(3);
        SnowKeeps again = Kit.of("places 2;path 0 1;walker 0 beat 1 0;wolves 5;storm 2 1;");
        again.rounds(3);
        Kit.tell(again, "places 2;path 0 1;walker 1 beat 0 1;");
        due(0, () -> again.walker(0, 1), "its steps begin anew");
        due(0, () -> again.beat(0, -1), "its beat begins anew");
        due(1, () -> again.walker(0, 0), "it stands where the new text tells");
        due(20, () -> again.count(10), "wolves without a line");
        due(0, () -> again.count(8), "no storm without a line");
        due(0, () -> again.count(9), "no storm takes none");
        at(14);
        SnowKeeps b = Kit.of("places 2;path 0 1;walker 0 beat 1 0;");
        due(1, () -> b.beat(0, 0), "the first");
        due(0, () -> b.beat(0, 1), "the last");
        at(19);
        SnowKeeps told = Kit.walked();
        Kit.fill(told, 0, 0, 2);
        due(1, () -> told.behind(0, 3, 2), "asked ahead of all else");
        at(21);
        dueThrow(NO_SUCH, () -> told.age(4, 0), "no place");
        dueThrow(NO_SUCH, () -> told.age(0, 4), "no place either");
        at(22);
        dueThrow(NO_SUCH, () -> told.seen(-1, false), "no place below");
        at(25);
        dueThrow(NO_SUCH, () -> told.fades(0, 4), "no place either");
        at(33);
        dueThrow(NO_SUCH, () -> told.hunts(4, 0), "no place either");
        at(43);
        due(4, () -> Kit.walked().sure(2, false), "last, asked first");
        due(4, () -> Kit.walked().sure(2, true), "first, asked first");
        at(49);
        SnowKeeps sign = Kit.of(Kit.RING);
        Kit.fill(sign, 0, 0, 0, 4);
        due(4, () -> sign.patrol(0), "round the ring");
        Kit.fill(sign, 0, 0);
        due(0, () -> sign.patrol(0), "no ways behind some");
        due(60, () -> sign.crowd(0), "likewise");
    }

    public static void main(String[] args) {
        thePlain();
        pathsAndWalkers();
        steps();
        toldSteps();
        prints();
        wolvesRemember();
        whoFollows();
        guides();
        fromWhatIsLeft();
        signs();
        moreSigns();
        readBack();
        traysAndImages();
        freshAndUsed();
        System.out.println(wrong == 0 ? "all promises hold" : wrong + " answers are wrong");
        if (wrong != 0) System.exit(1);
    }
}
