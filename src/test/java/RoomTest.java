import java.lang.management.ManagementFactory;

/** All calls of a run share one room, so the dearest calls must make next to nothing; and none takes long. */
public final class RoomTest {
    private static final com.sun.management.ThreadMXBean MEASURE = (com.sun.management.ThreadMXBean) ManagementFactory.getThreadMXBean();
    private static int wrong = 0;

    private static long made() {
        return MEASURE.getThreadAllocatedBytes(Thread.currentThread().getId());
    }

    private static void within(String what, long bytes, long most) {
        if (bytes > most) {
            wrong++;
            System.out.println(what + " makes " + bytes + " bytes, at most " + most + " are due");
        }
    }

    private static void longText(LeaningStreet x) {
        int[] feeds = {0x70757368, 0x20772b6c, 0x2d632b77};
        x.feed(feeds[0], feeds[1], feeds[2]);
        for (int i = 0; i < 7; i++) x.feed(0x2a6c2a77, 0x2b6c2d63, 0x2d632b77);
        x.text();
    }

    private static long dearCalls(LeaningStreet x) {
        long before = made();
        for (int i = 0; i < 40; i++) {
            x.propped(40);
            x.snows(60);
            x.wall(60, 1);
            x.began(0, 60, 1);
            x.lasts();
            x.taken(0, 60);
            x.behind(100, 1);
            x.check(30);
            x.keep();
            x.lay(0, 1, 0);
            x.lay(1, 2, 0);
        }
        return made() - before;
    }

    public static void main(String[] args) {
        new LeaningStreet();
        made();
        long before = made();
        LeaningStreet x = new LeaningStreet();
        within("a new object", made() - before, 12000);
        x.seed(5);
        x.deal(9);
        x.sheet(0, 1, 9);
        x.keep();
        dearCalls(x);
        within("440 calls that think", dearCalls(x), 2000);
        before = made();
        for (int i = 0; i < 14; i++) longText(x);
        within("14 long texts", made() - before, 14 * 1200);
        if (x.why(0) != 13) {
            wrong++;
            System.out.println("the long texts are none");
        }
        within("440 calls that think by a long text", dearCalls(x), 2000);
        System.out.println(wrong == 0 ? "there is room" : wrong + " calls make too much");
        if (wrong != 0) System.exit(1);
    }
}
