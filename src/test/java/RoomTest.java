import com.sun.management.ThreadMXBean;
import java.lang.management.ManagementFactory;

/**
 * What the dearest runs of 512 calls make, in bytes: each element takes one byte at least and each object
 * sixteen, so that fewer bytes than elements are allowed keep both counts within the room of one run.
 */
public final class RoomTest {
    private static final long MOST_BYTES = 7300000;
    private static final int CALLS = 512;

    interface Run {
        void on(Covenanter x, int call);
    }

    private static final Checks CHECKS = new Checks("RoomTest");
    private static final ThreadMXBean THREADS = (ThreadMXBean) ManagementFactory.getThreadMXBean();

    public static void main(String[] args) {
        if (!THREADS.isThreadAllocatedMemorySupported()) {
            System.out.println("RoomTest: this machine doesn't count what is made");
            return;
        }
        THREADS.setThreadAllocatedMemoryEnabled(true);
        within("a stack of numbers, emptied when it is full", RoomTest::numbers);
        within("formulas up to the level 6, by joins", RoomTest::joins);
        within("formulas up to the level 6, by shares and years", RoomTest::shares);
        within("definitions in all quarters", RoomTest::definitions);
        within("amounts of accounts that all terms rest on", RoomTest::amounts);
        within("all kinds of refused calls", RoomTest::refused);
        within("all that is asked", RoomTest::asked);
        CHECKS.end();
    }

    private static void within(String about, Run run) {
        CHECKS.about(about);
        long thread = Thread.currentThread().getId();
        run.on(new Covenanter(), 0);
        long before = THREADS.getThreadAllocatedBytes(thread);
        Covenanter x = new Covenanter();
        for (int call = 0; call < CALLS; call++) {
            run.on(x, call);
        }
        long made = THREADS.getThreadAllocatedBytes(thread) - before;
        CHECKS.due("few enough", made < MOST_BYTES ? "few enough" : made + " bytes");
    }

    private static void numbers(Covenanter x, int call) {
        if (call % 9 == 8) {
            x.clear();
        } else {
            x.number(1000000);
        }
    }

    // Each round of 64 calls: 32 numbers, joined in pairs as soon as both are of one level, and emptied.
    private static void joins(Covenanter x, int call) {
        int place = call % 64;
        int numbers = 0;
        int height = 0;
        boolean isJoin = false;
        for (int done = 0; done <= place; done++) {
            isJoin = numbers > 0 && Integer.bitCount(numbers) < height;
            numbers += isJoin ? 0 : 1;
            height += isJoin ? -1 : 1;
        }
        if (place == 63) {
            x.clear();
        } else if (isJoin) {
            x.join(Covenanter.GREATER);
        } else {
            x.number(1000000);
        }
    }

    private static void shares(Covenanter x, int call) {
        switch (call % 7) {
            case 0:
                x.number(1000000);
                break;
            case 6:
                x.clear();
                break;
            case 1:
            case 3:
            case 5:
                x.share(100);
                break;
            default:
                x.year();
                break;
        }
    }

    private static void definitions(Covenanter x, int call) {
        if (call % 2 == 0) {
            x.account(call % 6);
        } else if (x.terms() < 10) {
            x.define();
        } else {
            x.amend(call / 2 % 10, call / 20 % 20);
        }
    }

    private static void amounts(Covenanter x, int call) {
        if (call % 6 == 0 && x.terms() < 10) {
            Scenes.pushLevel(x, 6);
            x.define();
        }
        x.amount(0, call % 20, call);
    }

    private static void refused(Covenanter x, int call) {
        switch (call % 3) {
            case 0:
                Checks.told(() -> x.amount(6, 0, 0));
                break;
            case 1:
                Checks.told(() -> x.basket(-1, 0, 0));
                break;
            default:
                Checks.told(() -> x.join(Covenanter.SUM));
                break;
        }
    }

    private static void asked(Covenanter x, int call) {
        if (call == 0) {
            Scenes.full(x);
        }
        x.broken();
        x.textChar(9, call % 20, 0);
        x.size(call % 6, call % 20);
    }
}
