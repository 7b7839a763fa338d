import com.sun.management.ThreadMXBean;
import java.lang.management.ManagementFactory;

/** All calls of one run live in one room: runs of the dearest calls make few objects. */
public final class RoomTest {
    /** Far below 600,000 objects of some bytes, and 7.3 million elements. */
    private static final long MOST_BYTES = 4_000_000;
    private static final int CALLS = 512;

    public static void main(String[] args) {
        ThreadMXBean threads = (ThreadMXBean) ManagementFactory.getThreadMXBean();
        for (int which = 0; which < 6; which++) {
            long before = threads.getCurrentThreadAllocatedBytes();
            run(which);
            long used = threads.getCurrentThreadAllocatedBytes() - before;
            System.out.println("run " + which + " made " + used + " bytes");
            Check.due("run " + which + " keeps to its room", used < MOST_BYTES ? 0 : used, 0);
        }
        Check.finish();
    }

    private static void run(int which) {
        SendTheBox x = new SendTheBox();
        String sort = "sort room 7 comes 2 hold 3;sort room 8 comes 3 hold 5;sort room 9 comes 1 hold 2 left 9";
        String text = "days 6;" + sort;
        for (int i = 0; i < text.length(); i++) {
            x.feed(text.charAt(i), 1);
        }
        x.house();
        x.rule(1, 4, 0);
        x.row(7, 3, 125);
        for (int i = 0; i < CALLS - text.length() - 4; i++) {
            oneCall(x, which, i);
        }
    }

    private static void oneCall(SendTheBox x, int which, int i) {
        switch (which) {
            case 0:
                if (i % 2 == 0) {
                    x.alter(0, 0, i % 100);
                } else {
                    x.plain(0);
                }
                break;
            case 1: x.row(i % 7, 3, 125); break;
            case 2: x.rule(0, 5, 7); break;
            case 3: x.weeks(0, 1, 50); break;
            case 4: x.every(0); break;
            default:
                if (i % 2 == 0) {
                    x.image();
                } else {
                    x.back();
                }
                break;
        }
    }
}
