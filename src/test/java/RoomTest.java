import com.sun.management.ThreadMXBean;
import java.lang.management.ManagementFactory;

/** All calls of one run live in one room: what 512 of the dearest calls make is counted. */
public final class RoomTest {
    private static final Due DUE = new Due();
    private static final ThreadMXBean BEAN = (ThreadMXBean) ManagementFactory.getThreadMXBean();

    public static void main(String[] args) {
        for (String call : new String[] {"new", "image", "undo", "board", "rows", "order", "game", "when", "lasts",
            "odds", "cancel", "again", "cutter"}) {
            bytes(call);
            DUE.part(call);
            // The room takes some 7.3 million elements, of 4 bytes and more each.
            DUE.is("512 calls stay small", bytes(call) < 1_000_000L ? 1 : 0, 1);
        }
        DUE.end();
    }

    private static CutCrooked full(int cutters) {
        CutCrooked x = new CutCrooked();
        for (int i = 0; i < cutters; i++) {
            x.cutter(6, i, 0, 0, 5);
        }
        for (int i = 0; i < 4; i++) {
            x.week(0);
        }
        Due.board(x, "slip 0 !(c=1&!(k=2|u<9)&s=3|(t>9)|l=9);pull 0 !(c=1&!(k=2|u<9)&s=3|(t>9)|l=9)");
        x.image();
        return x;
    }

    private static long bytes(String call) {
        CutCrooked x = full(call.equals("order") ? 5 : 6);
        long thread = Thread.currentThread().getId();
        long before = BEAN.getThreadAllocatedBytes(thread);
        for (int i = 0; i < 512; i++) {
            switch (call) {
                case "new": if (i < 100) new CutCrooked(); break;
                case "image": x.image(); break;
                case "undo": x.undo(); break;
                case "board": x.feed('t'); x.board(); break;
                case "rows": x.rows(-1); break;
                case "order": x.order(-1); break;
                case "game": x.game(0, 1, 5, 0); break;
                case "when": x.when(20, 0); break;
                case "lasts": x.lasts(); break;
                case "odds": x.odds(3, 0); break;
                case "cancel": x.cancel(); break;
                case "again": x.again(0); break;
                default: x.cutter(6, 0, 0, 0, 1); break;
            }
        }
        return BEAN.getThreadAllocatedBytes(thread) - before;
    }
}
