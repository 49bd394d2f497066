/**
 * No question leaves a trace in the answers of another one, nor does a GROUND, NIGHT or RUN that
 * is no more: what is asked on a used object is answered as on a new one.
 */
public final class TracesTest {
    private static final String GROUND = "kind g 10 20;kind h 7 12 gives 2;kind i 30 5;kind j 4 9;"
            + "row abcd;row bbac;row dacb;shade 1 1 1 40;shade 3 0 0 80;water 90;";
    /** Larger in all: what is left of it behind the other's CELLS, KINDS, shades must not count. */
    private static final String LARGE = "kind g 1 99 gives 9;kind h 1 99 gives 9;kind i 1 99 gives 9;"
            + "kind j 1 99 gives 9;kind k 1 99 gives 9;kind l 1 99 gives 9;row abcdef;row abcdef;"
            + "row abcdef;row abcdef;row abcdef;shade 0 0 9 3;shade 1 1 9 1;shade 2 2 9 1;"
            + "shade 3 3 9 1;water 999;";
    private static final String[] NIGHTS = {"air 0 12 10;air 40 9 8;wind 60 1;sun 72;air 80 18 6;",
        "cloud 0 40;air 3 11 9;wind 20 3;wind 30 0;cloud 50 90;sun 75;air 90 25 4;", "air 0 0 1;"};
    private static final int[][] LAWNS = {{2, 2, 2, 2, 2, 2, 2, 2, 2, 2, 2, 1},
        {2, 1, 2, 2, 1, 1, 2, 2, 2, 2, 2, 2}};
    private static final int[] TRIED = {0, 0, 1, 0, 2, 1, 3, 2, 0, 2};

    private static final Object[][] ASKED = {
        {"much", 0, 1, 0, 71}, {"much", 1, 2, 2, 143}, {"where", 0, 71, 3}, {"where", 1, 100, 1},
        {"begins", 0, 0, 0}, {"begins", 1, 3, 2}, {"gone", 0, 1, 1}, {"gone", 1, 0, 1},
        {"wet", 0, 2, 0}, {"wet", 1, 2, 1}, {"spell", 0, 3, 1}, {"spell", 1, 0, 0},
        {"spell", 2, 0, 0}, {"sick", 0, 40}, {"sick", 1, 9}, {"frost", 2, 0, 0}, {"frost", 0, 1, 2}, {"slugs", 0, 60, 0, 0},
        {"slugs", 1, 18, 3, 2}, {"walk", 0, 71, 0, 11}, {"walk", 1, 50, 8, 3}, {"unlike", 0, 1},
        {"unlike", 1, 1}, {"bench", 0, 60}, {"bench", 2, 100}, {"lawn", 0}, {"lawn", 1},
        {"clouded", 0}, {"clouded", 1}, {"came", 0, 1, 0, 0}, {"came", 1, 1, 0, 72}, {"roof", 0, 2, 0},
        {"roof", 1, 0, 1}, {"driest", 0, 1}, {"driest", 1, 2}, {"catcher", 0, 0, 0},
        {"catcher", 1, 3, 2}, {"story", 0, 1, 0, 71, 1}, {"story", 0, 0, 0, 71, 2},
        {"story", 1, 1, 0, 90, 0}, {"part", 0, 1, 0, 0, 1}, {"part", 1, 0, 0, 2, 0},
        {"tries", 0, 71}, {"tries", 1, 40}, {"hay", 0, 3}, {"hay", 1, 0}, {"drawn", 0, 1, 0, 5, 9},
        {"drawn", 1, 0, 0, 3, 4}, {"go", 0}};

    private TracesTest() {
    }

    public static void main(String[] args) {
        long[] base = new long[ASKED.length];
        for (int i = 0; i < ASKED.length; i++) {
            base[i] = ask(told(new SixDew()), ASKED[i]);
        }
        oneBehindAnother(base);
        behindALargerGround(base);
        behindAFault(base);
        behindAnImage(base);
        behindARunGoneOn(base);
        Check.finish("TracesTest");
    }

    /** The GROUND, its NIGHTS, a RUN gone on by nine STEPS and a PLAN. */
    private static SixDew told(SixDew d) {
        Check.due("ground()", Check.ground(d, GROUND), 10);
        for (int slot = 0; slot < NIGHTS.length; slot++) {
            Check.due("night()", Check.night(d, slot, NIGHTS[slot]) > 0, true);
        }
        Check.due("begin", d.begin(0), true);
        Check.due("on", d.on(9), 9);
        Check.due("plan()", Check.plan(d, "cover 2 1;on 20;wipe 1 0;on 30;bare 2 1;on 9;"), 6);
        return d;
    }

    /** An answer, and what is told of it by went(), cameAt() or drawnBy(). */
    private static long ask(SixDew d, Object[] call) {
        String name = (String) call[0];
        int[] args = new int[5];
        for (int i = 1; i < call.length; i++) {
            args[i - 1] = (Integer) call[i];
        }
        if (name.equals("lawn") || name.equals("clouded")) {
            Check.tape(d, LAWNS[args[0]]);
        } else if (name.equals("tries")) {
            Check.tape(d, TRIED);
        }
        long answer = Faces.call(d, name, args);
        if (name.equals("came")) {
            return 10000000 * answer + 1000 * d.cameAt(0) + d.cameAt(1);
        }
        if (name.equals("drawn")) {
            return 100000000 * answer + 10000 * d.drawnBy(0) + 100 * d.drawnBy(1) + d.drawnBy(2);
        }
        if (name.equals("go")) {
            return 10000000 * answer + 100000 * d.went(1) + 1000 * d.went(2) + 10 * d.went(3)
                    + d.went(4);
        }
        return answer;
    }

    private static void allDue(String when, SixDew d, long[] base) {
        for (int i = 0; i < ASKED.length; i++) {
            Check.due(ASKED[i][0] + " (" + i + ") " + when, ask(d, ASKED[i]), base[i]);
        }
    }

    private static void oneBehindAnother(long[] base) {
        for (int first = 0; first < ASKED.length; first++) {
            for (int next = 0; next < ASKED.length; next++) {
                SixDew d = told(new SixDew());
                ask(d, ASKED[first]);
                Check.due(ASKED[next][0] + " (" + next + ") behind " + ASKED[first][0] + " ("
                        + first + ")",
                        ask(d, ASKED[next]), base[next]);
            }
        }
        SixDew d = told(new SixDew());
        allDue("in a row", d, base);
        allDue("in a row once more", d, base);
    }

    /** A larger GROUND, all wet and covered, went ahead. */
    private static SixDew large() {
        SixDew d = new SixDew();
        Check.due("ground()", Check.ground(d, LARGE), 16);
        for (int slot = 0; slot < 6; slot++) {
            Check.due("night()", Check.night(d, slot, "cloud 0 1;wind 0 2;air 0 40 40;sun 0;"), 4);
        }
        StringBuilder plan = new StringBuilder("on 3;");
        for (int c = 0; c < 29; c++) {
            plan.append("cover ").append(c % 6).append(' ').append(c / 6).append(';');
        }
        Check.due("plan()", Check.plan(d, plan.toString()), 30);
        Check.due("begin", d.begin(5), true);
        Check.due("go(1)", d.go(1), -1);
        Check.due("wet CELLS", d.now(3), 30);
        for (Object[] call : ASKED) {
            ask(d, call);
        }
        return d;
    }

    private static void behindALargerGround(long[] base) {
        for (int i = 0; i < ASKED.length; i++) {
            SixDew d = told(large());
            Check.due(ASKED[i][0] + " (" + i + ") behind a larger GROUND", ask(d, ASKED[i]), base[i]);
        }
        SixDew d = told(large());
        Check.same("all that is kept", Check.kept(d), Check.kept(told(new SixDew())));
        d = large();
        Check.due("ground()", Check.ground(d, GROUND), 10);
        Check.due("night()", d.night(0), 0);
        int[] without = {0, 0, 10, 8, 0};
        for (int t = 0; t < 144; t++) {
            for (int what = 0; what < 5; what++) {
                Check.due("sky(0, " + t + ", " + what + ")", d.sky(0, t, what), without[what]);
            }
        }
    }

    /** Texts with a FAULT are forgotten: their KINDS, shades, STOCK, LINES. */
    private static void behindAFault(long[] base) {
        SixDew d = new SixDew();
        Check.groundFault(d, LARGE + "water 1;", LARGE.length(), 3);
        Check.nightFault(d, 0, "cloud 0 9;wind 0 9;air 0 9 9;sun 0;sun 144;", 39, 2);
        allDue("behind FAULTS", told(d), base);
        d = told(new SixDew());
        Check.groundFault(d, LARGE + "water 1;", LARGE.length(), 3);
        Check.nightFault(d, 0, "cloud 0 9;wind 0 9;air 0 9 9;sun 0;sun 144;", 39, 2);
        Check.planFault(d, "on 1;on 1;on 1;on 1;on 1;on 1;on 1;on 0;", 38, 2);
        allDue("behind FAULTS", d, base);
    }

    /** An image brings all back, the RUN's CELLS of another GROUND, too. */
    private static void behindAnImage(long[] base) {
        for (int k = 0; k < 2; k++) {
            SixDew d = told(new SixDew());
            String kept = Check.kept(d);
            Check.due("image", d.image(k), true);
            Check.due("ground()", Check.ground(d, LARGE), 16);
            for (int slot = 0; slot < 6; slot++) {
                Check.due("night()", Check.night(d, slot, "cloud 0 1;wind 0 2;air 0 40 40;sun 0;"), 4);
            }
            Check.due("begin", d.begin(5), true);
            Check.due("on", d.on(100), 100);
            Check.due("plan()", Check.plan(d, "on 1;cover 0 0;wipe 5 4;"), 3);
            Check.due("go(1)", d.go(1), -1);
            Check.due("image of it", d.image(1 - k), true);
            Check.due("restore", d.restore(k), true);
            Check.same("all that is kept", Check.kept(d), kept);
            allDue("behind an image", d, base);
            goesOnAlike(d, told(new SixDew()));
        }
    }

    private static void goesOnAlike(SixDew d, SixDew other) {
        for (int t = 9; t < 144; t += 5) {
            Check.due("on", d.on(5), 5);
            Check.due("on", other.on(5), 5);
            Check.due("STOCK", d.now(1), other.now(1));
            Check.due("WARMTH", Check.is(d, 0, 0, 0), Check.is(other, 0, 0, 0));
            Check.due("WARMTH", Check.is(d, 2, 1, 0), Check.is(other, 2, 1, 0));
        }
    }

    /** The RUN now, its wiped and covered CELLS, show in no answer but those of the RUN. */
    private static void behindARunGoneOn(long[] base) {
        SixDew d = told(new SixDew());
        Check.due("image", d.image(0), true);
        Check.due("go(1)", d.go(1), -1);
        for (int i = 0; i < ASKED.length - 1; i++) {
            Check.due(ASKED[i][0] + " (" + i + ") behind go(1)", ask(d, ASKED[i]), base[i]);
        }
        Check.due("restore", d.restore(0), true);
        Check.due("go(0) behind restore(0)", ask(d, ASKED[ASKED.length - 1]), base[ASKED.length - 1]);
    }
}
