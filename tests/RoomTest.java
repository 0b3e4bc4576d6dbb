import java.lang.management.ManagementFactory;

/** No call makes anything: all rows are made by the constructor, so that 512 dear calls fit into one room. */
public final class RoomTest {
    public static void main(String[] args) {
        Due due = new Due("room");
        com.sun.management.ThreadMXBean threads = (com.sun.management.ThreadMXBean) ManagementFactory.getThreadMXBean();
        long thread = Thread.currentThread().getId();
        full(new InkBars(), 2);

        long before = threads.getThreadAllocatedBytes(thread);
        InkBars x = new InkBars();
        long made = threads.getThreadAllocatedBytes(thread) - before;
        due.is("a new object takes " + made + " bytes, some 60000 at most", made <= 60000, true);

        before = threads.getThreadAllocatedBytes(thread);
        full(x, 25);
        made = threads.getThreadAllocatedBytes(thread) - before;
        due.is("its calls take " + made + " bytes, next to none", made <= 4000, true);
        due.end();
    }

    /** The dearest calls on a full object. */
    private static void full(InkBars x, int rounds) {
        for (int i = 0; i < 24; i++) {
            x.feed(0x61006262 | 'a' + i << 16, 0x62626262, 0x62626262, 0, 0);
            x.name(4 + i % 9, i % 8, 0, 199, 100);
        }
        for (int k = 0; k < 4; k++) {
            x.bar(130, -1, 255);
        }
        x.lifted(0, 0, 3000);
        x.lifted(0, 0, 1);
        for (int s = 0; s < 6; s++) {
            x.feed(0x30203120, 0x32203320, 0x30203120, 0x32203320, 0x61206220);
            x.sheet(5000 - s, 19);
        }
        x.feed(0x30286e2a, 0x773e302f, 0x317c2128, 0x693d3929, 0x29202020);
        x.rules(17);
        for (int r = 0; r < rounds; r++) {
            x.width(1, 10 + r % 2);
            x.fillings(0);
            x.given();
            x.kept(24);
            x.odds(r % 4, r % 24);
            x.said(0, 500, 0);
            x.judge(r);
            x.line(0, r, 1);
            x.against(0, r % 24);
            x.feed(1, 2, 3, 4, 5);
            x.check(0, 1);
            x.feed(0x30286e2a, 0x773e302f, 0x317c2128, 0x693d3929, 0x29202020);
            x.rules(17);
        }
    }
}
