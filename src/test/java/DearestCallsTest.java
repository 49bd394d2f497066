import java.lang.management.ManagementFactory;
import java.util.Random;

/** No int breaks a call, and 512 of the dearest ones end soon and make next to nothing. */
public final class DearestCallsTest {
    private static final String[] NAMES = {"feed", "end", "ground", "fault", "cell", "night", "sky",
        "begin", "on", "is", "now", "plan", "go", "went", "much", "where", "begins", "gone", "wet",
        "spell", "sick", "frost", "slugs", "walk", "unlike", "bench", "lawn", "clouded", "came",
        "cameAt", "roof", "driest", "catcher", "story", "part", "tries", "hay", "drawn", "drawnBy",
        "image", "restore", "count"};

    private DearestCallsTest() {
    }

    public static void main(String[] args) {
        noIntBreaksACall();
        roomOfTheDearest();
        Check.finish("DearestCallsTest");
    }

    private static SixDew big() {
        SixDew d = new SixDew();
        StringBuilder s = new StringBuilder();
        for (char k = 'm'; k < 'm' + 8; k++) {
            s.append("kind ").append(k).append(" 1 99 gives 9;");
        }
        s.append(Check.times("row abcdefghabcd;", 12)).append("shade 5 5 9 100;water 0;");
        Check.groundDue(d, s.toString(), 22);
        for (int slot = 0; slot < 6; slot++) {
            Check.nightDue(d, slot, "air 0 40 0;wind 0 9;air 71 0 40;sun 71;", 4);
        }
        Check.due("begin", d.begin(5), true);
        Check.planDue(d, Check.times("on 1;cover 0 0;bare 0 0;", 10), 30);
        return d;
    }

    private static void noIntBreaksACall() {
        Random random = new Random(7);
        int[] ints = {Integer.MIN_VALUE, Integer.MIN_VALUE + 1, -1000, -2, -1, 0, 1, 2, 3, 5, 11,
            12, 71, 72, 100, 143, 144, 145, 999, 9999, 10000, Integer.MAX_VALUE - 1, Integer.MAX_VALUE};
        for (int object = 0; object < 60; object++) {
            SixDew d = object % 2 == 0 ? new SixDew() : big();
            for (int call = 0; call < 300; call++) {
                int[] a = new int[5];
                for (int i = 0; i < 5; i++) {
                    a[i] = ints[random.nextInt(ints.length)];
                }
                Faces.call(d, NAMES[random.nextInt(NAMES.length)], a);
            }
        }
    }

    private static long made() {
        return ((com.sun.management.ThreadMXBean) ManagementFactory.getThreadMXBean())
                .getCurrentThreadAllocatedBytes();
    }

    /** The room is some 600,000 objects and 7.3 million elements for all calls of a run. */
    private static void roomOfTheDearest() {
        String[] dearest = {"bench", "roof", "came", "drawn", "sick", "unlike", "go", "image",
            "restore", "walk", "tries", "clouded", "lawn", "catcher"};
        int[][] args = {{0, 0}, {0, 11, 11}, {0, 11, 11, 5}, {0, 11, 11, 30, 1}, {0, 1}, {0, 1}, {1},
            {1}, {1}, {0, 143, 0, 143}, {0, 143}, {0}, {}, {0, 11, 11}};
        for (int i = 0; i < dearest.length; i++) {
            SixDew d = big();
            long ahead = made();
            for (int call = 0; call < 512; call++) {
                Faces.call(d, dearest[i], args[i]);
            }
            long bytes = made() - ahead;
            if (bytes > 250000) {
                Check.due("bytes made by 512 calls of " + dearest[i], bytes, 0);
            }
        }
    }
}
