import java.lang.management.ManagementFactory;

/** All calls of a run live in one room: an object is made once, and its calls make nothing. */
public final class RoomTest {
    private static final com.sun.management.ThreadMXBean BEAN =
        (com.sun.management.ThreadMXBean) ManagementFactory.getThreadMXBean();
    private static final int ROUNDS = 200;

    public static void main(String[] args) {
        TableTower[] towers = new TableTower[100];
        towers[0] = new TableTower();
        long before = bytes();
        for (int i = 1; i < towers.length; i++) {
            towers[i] = new TableTower();
        }
        long each = (bytes() - before) / (towers.length - 1);
        System.out.println("a new object: " + each + " bytes");
        Check.that("a new object is small", each > 0 && each < 40000);

        StringBuilder text = new StringBuilder("takes left/2 and hunger*(level+1) or not above<3;");
        for (int i = 0; i < 10; i++) {
            text.append("folding 7 200 ").append(i % 2 == 0 ? "-" : "").append("3 9;");
        }
        TableTower x = Check.tower(text.toString());
        allCalls(x);
        before = bytes();
        int sum = 0;
        for (int i = 0; i < ROUNDS; i++) {
            sum += allCalls(x);
        }
        long made = bytes() - before;
        System.out.println(ROUNDS + " rounds of all calls: " + made + " bytes (" + sum + ")");
        Check.that("the calls make nothing", made < 1000);
        Check.end();
    }

    private static long bytes() {
        return BEAN.getThreadAllocatedBytes(Thread.currentThread().getId());
    }

    private static int allCalls(TableTower x) {
        // A text with a FAULT, so that the tower stays.
        int sum = x.feed(0x6f616b20, 0x35203920, 0x3020333b, 0x20202020, -1) + x.town(20) + x.fault();
        for (int what = 0; what < 15; what++) {
            sum += x.count(what);
        }
        for (int what = 0; what < 8; what++) {
            sum += x.table(3, what);
        }
        for (int what = 0; what < 5; what++) {
            sum += x.level(3, what);
        }
        x.image();
        sum += x.by() + x.supper() + x.take(1) + x.put(1, 0) + x.wedge(2, 3) + x.saw(2, 3) + x.years(1) + x.undo();
        sum += x.change(0, 1) ? 1 : 0;
        sum += x.more() + x.most(0) + x.most(1) + (int) x.orders() + x.wedges() + x.when() + x.marriages();
        sum += x.without(1) ? 1 : 0;
        sum += x.marry(1, 2) ? 1 : 0;
        sum += x.nod(1, 5) + x.fair() + x.out(1) + x.oneWedge() + (int) x.lifted(3, 1) + x.swap() + x.slack(0);
        sum += x.broken(3) + x.crooked() + x.top(70) + x.relief() + x.hungriest() + x.see(0, 0) + x.which(0);
        sum += x.which(1) + x.which(2) + x.look() + x.game(0) + x.game(1) + x.decades(5, 40, 0);
        x.forget();
        sum += x.restore() ? 1 : 0;
        return sum;
    }
}
