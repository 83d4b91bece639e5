import com.sun.management.ThreadMXBean;
import java.lang.management.ManagementFactory;

/** What a run makes: an object with its rows when it is made, and nothing in any call after it. */
public final class Room {
    private static final String DEAR = "slight look 1;slight word 2;slight lie 3 if owed + mine < 20;slight blow 5;"
        + "back bow 1;back sorry 2 if gone > 1;back letter 3 if mine > 0;back public 4 if owes = 0;back bow 1;back bow 1;"
        + "refuse age > hisage + 90;ask 1;hours 8;must 1";

    private static long answers = 0;

    public static void main(String[] args) {
        ThreadMXBean threads = (ThreadMXBean) ManagementFactory.getThreadMXBean();
        long id = Thread.currentThread().getId();
        run(made());
        long before = threads.getThreadAllocatedBytes(id);
        TwoCards x = new TwoCards();
        long made = threads.getThreadAllocatedBytes(id) - before;
        Check.due("an object is of " + made + " bytes: less than 400,000", made < 400000, true);
        TwoCards dear = made();
        before = threads.getThreadAllocatedBytes(id);
        run(dear);
        long calls = threads.getThreadAllocatedBytes(id) - before;
        Check.due("calls made " + calls + " bytes: hardly any", calls < 2000, true);
        Check.due("all was asked", answers != 0 && x.count(0) == 0, true);
        Check.end("Room");
    }

    private static TwoCards made() {
        TwoCards x = Check.people(3, DEAR);
        Check.tape(x, DEAR);
        return x;
    }

    /** Every method, the dearest of them on quarrels of eight hours; some 400 calls. */
    private static void run(TwoCards x) {
        answers += x.code() + x.code() + x.person(1, 1, 1) + x.person(-1, 0, 0);
        for (int i = 0; i < 12; i++) {
            answers += x.quarrel(i % 2, 1 - i % 2, i % 10, i % 4) + x.may(i) + x.ends(i) + x.ways(i, 8) + x.brief(i, 4, 0);
            answers += x.game(i, 0) + x.move(i, 10) + x.move(i, i % 8) + x.otherwise(i, 1, 8) + x.doubt(i, 7) + x.hangs(i);
            answers += x.thinks(i, 0, 1) + x.waits(i) + x.ring(i) + x.first(0) + x.late(i) + x.must(i) + x.history(i, 1);
            answers += x.harsh(0, 0, 1, 0) + x.mend(0, 0, 1, 0, 3) + x.image(i % 4) + x.back(i % 4) + x.count(3);
            answers += x.state(i, 0) + x.told(0, 0) + x.weighs(0, 0, 1, 0, 1, 1, 1, 0);
            answers += x.feed(i, i, i, i, i) + x.end(3);
            x.debt(0, 1, i % 2 == 0);
            x.keeps(0, 0);
        }
    }
}
