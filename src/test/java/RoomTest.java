import java.lang.management.ManagementFactory;

/** What is made is made by the constructor, and is little: all calls of a run live in one room. */
public final class RoomTest {
    private static final Due DUE = new Due("RoomTest");
    private static final com.sun.management.ThreadMXBean BEAN =
        (com.sun.management.ThreadMXBean) ManagementFactory.getThreadMXBean();

    private RoomTest() {
    }

    public static void main(String[] args) {
        calls(new MockParcels());
        MockParcels x = new MockParcels();
        long before = BEAN.getCurrentThreadAllocatedBytes();
        MockParcels y = new MockParcels();
        long made = BEAN.getCurrentThreadAllocatedBytes() - before;
        // 7.3 million elements of four bytes for 512 objects, if every call of a run made a new one.
        DUE.is("an object is small: " + made, made < 7300000L * 4 / 512, true);
        before = BEAN.getCurrentThreadAllocatedBytes();
        calls(x);
        long more = BEAN.getCurrentThreadAllocatedBytes() - before;
        DUE.is("calls make next to nothing: " + more, more < 4096, true);
        DUE.is("as due", y.look(0), 0);
        DUE.end();
    }

    private static void calls(MockParcels x) {
        for (int i = 0; i < 8; i++) {
            x.bidder(999, i, i == 3);
            x.parcel(10 * i, i, i);
            x.length(10 + i);
            x.coin(1 + i);
            x.put(10 * i, i % 3);
            x.clue(37 * i, i % 2 == 0);
            x.police(12 * i);
            x.weighs(1 + i % 7, 1 + i);
        }
        x.image(true);
        for (int i = 0; i < 20; i++) {
            // "bids 999;on 0 sell 1" and its like: good or not, it is read.
            x.feed(0x62696473, 0x20393939, 0x3b737465, 0x7020373b, 0x20202020);
            x.text(i % 4);
            x.sell(i % 8);
            x.pay(i % 8, 5);
            x.days(1);
            x.settle(i % 8);
            x.would(i % 8, 1);
            x.goes(9, 1);
            x.inside(i % 8, 0);
            x.strings(60, 0);
            x.pays(999, 1);
            x.swaps(0);
            x.wishes(0);
            x.puts(0);
            x.which(1);
            x.every(5);
            x.shill(500, 5, 9);
            x.halves(1);
            x.game(1);
            x.undo();
        }
        x.image(false);
    }
}
