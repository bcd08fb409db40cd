import com.sun.management.ThreadMXBean;
import java.lang.management.ManagementFactory;

/** All calls of a run live in one room: the dearest calls make no objects at all. */
public final class RoomTest {
    private static final String SEVEN = "loaf 1;press 1;resolve 9;guest a wish 1 bears 20 dear 1;guest b wish 2 bears 20 dear 1;"
        + "guest c wish 3 bears 20 dear 1;guest d wish 4 bears 20 dear 1;guest e wish 5 bears 20 dear 1;guest f wish 6 bears 20 dear 1;"
        + "guest g wish 7 bears 20 dear 1;butter a b;butter b c;butter c d;butter d e;butter e f;butter f g;butter g a;";

    public static void main(String[] args) {
        Check check = new Check("RoomTest");
        ThreadMXBean threads = (ThreadMXBean) ManagementFactory.getThreadMXBean();
        LoafTable x = Check.laid(SEVEN);
        Check.weeks(x, "loop 99;loop 99;any;day 20;soup a;end;end;");
        x.tray(0, 0, 40);
        long sum = calls(x);
        long before = threads.getCurrentThreadAllocatedBytes();
        for (int i = 0; i < 20; i++) {
            sum += calls(x);
        }
        long made = threads.getCurrentThreadAllocatedBytes() - before;
        check.due("calls answered", sum != 0, true);
        check.due("bytes made by 20 rounds of calls, fewer than 4,000: " + made, made < 4000, true);
        before = threads.getCurrentThreadAllocatedBytes();
        LoafTable one = new LoafTable();
        made = threads.getCurrentThreadAllocatedBytes() - before;
        check.due("bytes of one object, fewer than 60,000: " + made, one.status() == 0 && made < 60000, true);
        check.end();
    }

    private static long calls(LoafTable x) {
        long sum = x.mark();
        sum += x.plan(5) + x.planAt(5, 4) + x.game(0, 1, 3) + x.moveOf(0, 1, 3) + x.seen(0, 0, 20) + x.seenAs(0, 0, 20, 1);
        sum += x.ask(0, 0, 0) + x.hangs() + x.least(20) + x.starving() + x.next() + x.nextBy() + x.thereIn(99);
        sum += x.mean(3, 20) ? x.top() : 0;
        sum += x.live(5) + x.lived(1) + x.copyWishes(0) + x.told(9) + x.wanted() + x.day(1);
        sum += x.tray(1, 3, 60) ? 1 : 0;
        sum += x.stale(12) ? 1 : 0;
        sum += x.feed(0x616e793b, 0x616e793b, 0x616e793b, 0x616e793b, 0x616e793b);
        sum += x.weeks(20);
        x.undo();
        return sum;
    }
}
