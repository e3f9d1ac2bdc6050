import com.sun.management.ThreadMXBean;
import java.lang.management.ManagementFactory;

/** Calls make (next to) no objects: all rows are kept in the object. */
public final class RoomTest {
    private static final Check CHECK = new Check();
    /** Bytes a call; one text of a StringBuilder's number may stay within it. */
    private static final long MOST = 600;

    private interface Calls {
        void call(CornerMaps x, int i);
    }

    public static void main(String[] args) {
        StringBuilder points = new StringBuilder();
        for (int p = 0; p < 8; p++) {
            points.append("point ").append(p).append(" 1 ").append(p % 3).append(';');
        }
        CornerMaps x = Plain.with(points.toString());
        for (int m = 0; m < 11; m++) {
            x.power(m, 2);
        }
        room("word", x, (y, i) -> y.word(i % 16, -1));
        room("generated", x, (y, i) -> y.generated(2));
        room("likeness", x, (y, i) -> y.likeness(i % 8, 1, 0));
        room("symmetries", x, (y, i) -> y.symmetries(i % 8, 4));
        room("pairs", x, (y, i) -> y.pairs(i % 3));
        room("spell", x, (y, i) -> y.spell(i % 16, 0));
        room("whole", x, (y, i) -> y.whole(i % 16, 9));
        room("share", x, (y, i) -> y.share(0, 3, 6, i % 8, 0));
        room("moves", x, (y, i) -> y.moves(i % 16));
        room("drop", x, (y, i) -> {
            y.drop(0);
            y.undo();
        });
        room("text", x, (y, i) -> {
            for (int k = 0; k < 45; k++) {
                y.feed(0x706f696e, 0x74203120, 0x3220333b, 0x20202020, 0x20202020);
            }
            y.text(160);
        });
        CHECK.due("the last text", x.count(0), 8);
        CHECK.end();
    }

    private static void room(String what, CornerMaps x, Calls calls) {
        ThreadMXBean bean = (ThreadMXBean) ManagementFactory.getThreadMXBean();
        for (int i = 0; i < 50; i++) {
            calls.call(x, i);
        }
        long id = Thread.currentThread().getId();
        long before = bean.getThreadAllocatedBytes(id);
        for (int i = 0; i < 200; i++) {
            calls.call(x, i);
        }
        long each = (bean.getThreadAllocatedBytes(id) - before) / 200;
        CHECK.due(what + " takes " + each + " bytes a call", each <= MOST ? 1 : 0, 1);
    }
}
