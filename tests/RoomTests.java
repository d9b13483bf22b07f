import java.lang.management.ManagementFactory;

/**
 * All calls of one run live in one room: 512 calls on an object, each the dearest of its kind, take a small part of it.
 * An element is taken to have four bytes, the least that one of them has on this machine but in rows of bytes.
 */
public final class RoomTests {
    private static final long ROOM_BYTES = 4L * 7300000;
    private static final long PART_OF_ROOM = ROOM_BYTES / 10;
    private static final int CALLS = 512;
    private static int wrong = 0;

    interface Call {
        void on(SnowKeeps s);
    }

    private RoomTests() { }

    private static long taken() {
        return ((com.sun.management.ThreadMXBean) ManagementFactory.getThreadMXBean()).getCurrentThreadAllocatedBytes();
    }

    private static void look(String name, long bytes) {
        if (bytes > PART_OF_ROOM) {
            wrong++;
            System.out.println(name + " takes " + bytes + " bytes of " + ROOM_BYTES);
        }
    }

    private static void fits(String name, String text, Call call) {
        SnowKeeps s = Kit.of(text);
        s.rounds(60);
        Kit.fill(s, 0, 0, 0, 1, 2, 3);
        call.on(s);
        long before = taken();
        for (int i = 1; i < CALLS; i++) {
            call.on(s);
        }
        look(CALLS + " calls of " + name, taken() - before);
    }

    private static void plains() {
        StringBuilder text = new StringBuilder(Kit.sixteenPaths() + "walker 0 beat 1 0 2 0 3 0 4 0;");
        while (text.length() + 7 <= 600) {
            text.append("keep 9;");
        }
        SnowKeeps s = new SnowKeeps();
        long bytes = 0;
        // more than a run can have, as each text takes thirty feeds besides
        for (int i = 0; i < CALLS; i++) {
            Kit.feed(s, text.toString());
            long before = taken();
            s.plain(text.length());
            bytes += taken() - before;
        }
        look(CALLS + " calls of plain", bytes);
    }

    public static void main(String[] args) {
        long before = taken();
        SnowKeeps fresh = new SnowKeeps();
        look("a new object of " + fresh.count(4), taken() - before);
        plains();
        String text = Kit.sixteenPaths() + "walker 0 beat 1 0 2 0 3 0 4 0;walker 6;keep 14;storm 99 1;wolves 99;";
        fits("again", text, s -> s.again(0));
        fits("judge", text, s -> s.judge(0, 3));
        fits("behind", text, s -> s.behind(0, 0, 1));
        fits("distance", text, s -> s.distance(0, 6));
        fits("meets", text, s -> s.meets(0, 6));
        fits("hunter", text, s -> s.hunter(0, 60));
        fits("blur", text, s -> s.blur(0, 3, 10));
        fits("homes", text, s -> s.homes(4, 9));
        fits("bargain", text, s -> s.bargain(0));
        fits("retrace", text, s -> s.retrace(0, 0));
        fits("goesBack", text, s -> s.goesBack(0));
        fits("rounds", text, s -> s.rounds(1));
        fits("day", text, s -> s.day(7, 60));
        fits("rows", text, s -> s.rows(0));
        fits("row", text, s -> s.row(0, 1, 14));
        fits("sure", text, s -> s.sure(0, true));
        fits("starts", text, s -> s.starts());
        fits("two", text.replace("keep 14", "keep 8"), s -> s.two(0, 1));
        fits("clear", "places 5;path 0 1;path 0 2;path 1 2;walker 0;", s -> s.clear(0, 5, true));
        fits("signs", text, s -> s.signs(0, 4));
        fits("pens", text, s -> s.pens(0));
        fits("crowd", text, s -> s.crowd(0));
        fits("reads", text, s -> s.reads(0));
        fits("image", text, s -> s.image(2));
        fits("tray", text, s -> s.tray(1, 3, 30));
        System.out.println(wrong == 0 ? "there is room for all" : wrong + " take too much room");
        if (wrong != 0) {
            System.exit(1);
        }
    }
}
