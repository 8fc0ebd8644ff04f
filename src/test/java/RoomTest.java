import com.sun.management.ThreadMXBean;
import java.lang.management.ManagementFactory;

/**
 * All that 512 calls make must fit one room: some 600,000 objects, 7.3 million fields and elements. Bytes are counted
 * here: an object takes 16 at least, and an element 4 mostly, so that 8 million bytes are well inside.
 */
public final class RoomTest {
    private static final long LIMIT = 8_000_000L;
    private static final ThreadMXBean THREADS = (ThreadMXBean) ManagementFactory.getThreadMXBean();
    private static int wrong;
    private static int calls;
    private static Levelhouse house;

    private static int say(int session, String text) {
        for (int i = 0; i < text.length(); i += 8) {
            char[] c = (text.substring(i, Math.min(i + 8, text.length())) + "        ").toCharArray();
            house.typeMore(session, Math.min(8, text.length() - i), c[0], c[1], c[2], c[3], c[4], c[5], c[6], c[7]);
            calls++;
        }
        calls++;
        try {
            return house.run(session);
        } catch (UnsupportedOperationException e) {
            return 0;
        }
    }

    private static void enter(int session, int label) {
        calls++;
        house.enter(session, label);
    }

    /** Entries at every label, and then all pairs of them put together, again and again. */
    private static void manyPairs() {
        say(0, "table t(a key,b num)");
        for (int i = 1; i <= 12; i++) {
            say(0, "put t(" + i + ",1)");
        }
        for (int i = 1; i < 64; i++) {
            enter(1, i);
            say(1, "set t b=1");
        }
        enter(1, 63);
        while (calls < 512) {
            say(1, "get each count from t join t on b=b by a");
        }
    }

    /** Answers that are as wide and long as can be, of all sessions. */
    private static void longAnswers() {
        manyEntries();
        for (int i = 0; calls < 512; i++) {
            enter(i % 8, 63);
            say(i % 8, "get each 1,1,1,1,1,1,1,1,1,1,1,1,1,1,1,1,1,1,1,1,1,1,1,1,1,1,1,1,1,1,1,1,1,1,1,1,1,1,1,1,1,1,1from t top 150");
        }
    }

    private static void manyEntries() {
        say(0, "table t(a key,b num,c num,d num,e num)");
        for (int i = 1; i <= 12; i++) {
            say(0, "put t(" + i + ",1,1,1,1)");
        }
        for (int i = 1; i < 64 && calls < 300; i++) {
            enter(1, i);
            say(1, "set t b=1");
        }
    }

    private static void manyMoments() {
        manyEntries();
        for (int i = 0; calls < 512; i++) {
            house.begin(i % 8);
            say(i % 8, "set t b=1");
            house.giveUp(i % 8);
            calls += 2;
        }
    }

    private static void manyChanges() {
        manyEntries();
        while (calls < 512) {
            say(0, "set t b=2");
        }
    }

    private static void manyTables() {
        for (int i = 0; calls < 512; i++) {
            say(0, "table t(a key,b num)if a+a+a+a+a+a+a+a+a+a+a+a+a");
            say(0, "drop t");
        }
    }

    private static void manyFaults() {
        String open = "((((((((((((((((((((((((((((((((((((((((((((((((((((((((((((((((";
        while (calls < 512) {
            say(0, "get " + open);
            calls++;
            house.isSound();
        }
    }

    private static void measure(String name, Runnable play) {
        calls = 0;
        long before = THREADS.getThreadAllocatedBytes(Thread.currentThread().getId());
        house = new Levelhouse();
        play.run();
        long made = THREADS.getThreadAllocatedBytes(Thread.currentThread().getId()) - before;
        System.out.println("RoomTest: " + name + " made " + made + " bytes in " + calls + " calls");
        if (made > LIMIT) {
            wrong++;
        }
    }

    public static void main(String[] args) {
        measure("many pairs", RoomTest::manyPairs);
        measure("long answers", RoomTest::longAnswers);
        measure("many moments", RoomTest::manyMoments);
        measure("many changes", RoomTest::manyChanges);
        measure("many tables", RoomTest::manyTables);
        measure("many faults", RoomTest::manyFaults);
        if (wrong != 0) {
            System.out.println("RoomTest: too much was made");
            System.exit(1);
        }
    }
}
