import java.io.IOException;

/**
 * A test of its own for each sentence of the document that names a boundary case, by hand: what is too small, too large,
 * empty, full, wraps around or is refused. Also looks whether some boundary of the document has no test.
 */
public final class EdgeTests {
    private static final int LONGEST_MILLIS = 120000;

    private EdgeTests() { }

    /** A call that never ends is wrong, too. */
    private static void watch() {
        Thread watch = new Thread(() -> {
            try {
                Thread.sleep(LONGEST_MILLIS);
            } catch (InterruptedException e) {
                return;
            }
            System.out.println("some call does not end");
            Runtime.getRuntime().halt(1);
        });
        watch.setDaemon(true);
        watch.start();
    }

    public static void main(String[] args) throws IOException {
        watch();
        Edge.readDocument();
        TextEdges.run();
        StepEdges.run();
        PrintEdges.run();
        FollowEdges.run();
        LeftEdges.run();
        SignEdges.run();
        TrayEdges.run();
        Edge.finish();
    }
}
