/** Promises 9 to 15: the RUN now and the PLAN, by answers worked out from the document. */
public final class RunsTest {
    private RunsTest() {
    }

    public static void main(String[] args) {
        p09Begin();
        p10On();
        p11Is();
        p11Warmth();
        p11WaterOn();
        p11WaterOff();
        p11CellByCell();
        p12Now();
        p14Go();
        p14Wrong();
        p15Went();
        Check.finish("RunsTest");
    }

    private static SixDew with(String ground, String night) {
        SixDew d = Check.with(ground, night);
        Check.due("begin", d.begin(0), true);
        return d;
    }

    /** WARMTH of the first CELL behind each STEP. */
    private static void warmthDue(String ground, String night, int... warmth) {
        SixDew d = with(ground, night);
        for (int t = 0; t < warmth.length; t++) {
            d.on(1);
            Check.due("WARMTH behind " + t + " of " + night, Check.is(d, 0, 0, 0), warmth[t]);
        }
    }

    /** WATER of a CELL behind each STEP. */
    private static void waterDue(String ground, String night, int x, int... water) {
        SixDew d = with(ground, night);
        for (int t = 0; t < water.length; t++) {
            d.on(1);
            Check.due("WATER behind " + t + " of " + night, Check.is(d, x, 0, 1), water[t]);
            Check.due("much behind " + t + " of " + night, d.much(0, x, 0, t), water[t]);
        }
    }

    private static SixDew onBy(SixDew d, int steps) {
        Check.due("on(" + steps + ")", d.on(steps), steps);
        return d;
    }

    private static void p09Begin() {
        SixDew d = new SixDew();
        Check.ground(d, "kind g 10 20;row a;water 30;");
        for (int slot : new int[] {-1, 0, 6}) {
            Check.due("begin(" + slot + ")", d.begin(slot), false);
        }
        Check.due("no RUN", d.now(0), -1);
        Check.night(d, 3, "");
        Check.due("begin(3)", d.begin(3), true);
        Check.due("now(0)", d.now(0), 0);
        Check.due("on(9)", d.on(9), 9);
        // No such one: the RUN stays as it is.
        Check.due("begin(2)", d.begin(2), false);
        Check.due("begin(7)", d.begin(7), false);
        Check.due("now(0)", d.now(0), 9);
        // Anew: WARMTH, WATER, STOCK and covered CELLS as at first.
        Check.plan(d, "cover 0 0;");
        Check.due("go(1)", d.go(1), -1);
        Check.due("begin(3)", d.begin(3), true);
        Check.due("now(0)", d.now(0), 0);
        Check.due("now(1)", d.now(1), 30);
        Check.due("WARMTH", Check.is(d, 0, 0, 0), 1000);
        Check.due("WATER", Check.is(d, 0, 0, 1), 0);
        Check.due("go(0)", d.go(0), -1);
        Check.due("on(1)", d.on(1), 1);
        Check.due("WARMTH behind STEP 0", Check.is(d, 0, 0, 0), 800);
    }

    private static void p10On() {
        SixDew d = with("kind g 10 20;row a;", "");
        Check.due("on(0)", d.on(0), 0);
        Check.due("on(-1)", d.on(-1), -1);
        Check.due("on(145)", d.on(145), -1);
        Check.due("now(0)", d.now(0), 0);
        Check.due("on(1)", d.on(1), 1);
        Check.due("on(144)", d.on(144), 143);
        Check.due("on(5)", d.on(5), 0);
        Check.due("now(0)", d.now(0), 144);
        Check.due("begin", d.begin(0), true);
        Check.due("on(144)", d.on(144), 144);
        // The RUN goes by the NIGHT that it began with.
        Check.due("begin", d.begin(0), true);
        Check.night(d, 0, "air 0 30 30;");
        Check.due("on(1)", d.on(1), 1);
        Check.due("WARMTH", Check.is(d, 0, 0, 0), 800);
        Check.ground(d, "kind g 10 20;row a;");
        Check.due("on without a RUN", d.on(1), -1);
        Check.due("on(0) without a RUN", d.on(0), -1);
    }

    private static void p11Is() {
        SixDew d = with("kind g 10 20;kind f 10 0;row ab;row ba;", "");
        d.on(1);
        Check.due("WARMTH 0 0", Check.is(d, 0, 0, 0), 800);
        Check.due("WARMTH 1 0", Check.is(d, 1, 0, 0), 1000);
        Check.due("WARMTH 0 1", Check.is(d, 0, 1, 0), 1000);
        Check.due("WARMTH 1 1", Check.is(d, 1, 1, 0), 800);
        d.on(1);
        Check.due("WATER 1 1", Check.is(d, 1, 1, 1), 4);
        Check.due("WATER 0 1", Check.is(d, 0, 1, 1), 0);
        int[][] none = {{-1, 0, 0}, {2, 0, 0}, {0, -1, 0}, {0, 2, 0}, {0, 0, -1}, {0, 0, 2}};
        for (int[] a : none) {
            Check.due("is of none", Check.is(d, a[0], a[1], a[2]), Check.THROWS);
        }
        Check.ground(d, "kind g 10 20;row a;");
        Check.due("is without a RUN", Check.is(d, 0, 0, 0), Check.THROWS);
    }

    private static void p11Warmth() {
        // (100 A less WARMTH) by H and 10, cut toward 0: 200 by 19 is 10, and -200 by 19 is -10.
        warmthDue("kind f 9 0;row a;", "air 1 12 0;", 1000, 1010, 1020, 1029);
        warmthDue("kind f 9 0;row a;", "air 1 8 0;", 1000, 990, 980, 971);
        // Times V and 1 more ahead of the division: 200 times 2 by 19 is 21.
        warmthDue("kind f 9 0;row a;", "air 1 12 0;wind 1 1;", 1000, 1021);
        // At first 100 A of STEP 0.
        warmthDue("kind f 9 0;row a;", "air 0 0 0;", 0, 0);
        warmthDue("kind f 9 0;row a;", "air 0 40 0;", 4000);
        // SKY times (100 less C) times G by 100 H: 33 * 100 * 7 by 900 is 25, with C 10 23.
        warmthDue("kind g 9 7;row a;shade 0 0 0 67;", "", 975, 951);
        warmthDue("kind g 9 7;row a;shade 0 0 0 67;", "cloud 0 10;", 977);
        warmthDue("kind g 9 7;row a;shade 0 0 0 67;", "cloud 0 100;", 1000);
        // SUN times 8 SKY by H: 264 by 9 is 29; each of the three is cut by itself.
        warmthDue("kind g 9 7;row a;shade 0 0 0 67;", "air 1 12 8;sun 1;", 975, 990);
        warmthDue("kind f 7 0;row a;", "sun 0;", 1114);
        warmthDue("kind f 1 99;row a;", "", 1000 - 9900);
    }

    private static void p11WaterOn() {
        // WARMTH stays 1000, so that D is 100 L less 1000: 100 makes 3, 0 none.
        String flat = "kind f 10 0;row a;";
        waterDue(flat, "air 0 10 11;", 0, 3, 6, 9);
        waterDue(flat, "air 0 10 10;", 0, 0, 0);
        waterDue(flat, "air 0 10 40;", 0, 61, 122);
        waterDue(flat, "air 0 10 11;wind 0 2;", 0, 3);
        waterDue(flat, "air 0 10 11;wind 0 3;", 0, 0);
        waterDue(flat + "water 7;", "air 0 10 11;", 0, 3, 6, 7, 7);
        waterDue(flat + "water 0;", "air 0 10 11;", 0, 0, 0);
        // D 49 makes 1, D 50 makes 2: 1000 less 51 by the SKY, with L 10, and less 50.
        waterDue("kind f 10 10;row a;shade 0 0 0 51;", "air 0 10 10;", 0, 1);
        waterDue("kind f 10 10;row a;shade 0 0 0 50;", "air 0 10 10;", 0, 2);
        waterDue("kind f 10 10;row a;shade 0 0 0 99;", "air 0 10 10;", 0, 1);
        // What the KIND gives comes from no STOCK, in wind, too, but with D above 0 alone.
        waterDue("kind w 10 0 gives 5;row a;water 4;", "air 0 10 11;", 0, 8, 14, 19);
        waterDue("kind w 10 0 gives 5;row a;", "air 0 10 11;wind 0 9;", 0, 5, 10);
        waterDue("kind w 10 0 gives 5;row a;", "air 0 10 10;", 0, 0, 0);
    }

    private static void p11WaterOff() {
        String flat = "kind f 10 0;row a;";
        // 30 WATER in ten STEPS; then D -100 dries 3, D 0 and D -39 by 1, no more than there is.
        waterDue(flat, "air 0 10 11;air 9 10 9;", 0, 3, 6, 9, 12, 15, 18, 21, 24, 27, 24, 21, 18);
        waterDue(flat, "air 0 10 11;air 3 10 10;", 0, 3, 6, 9, 8, 7, 6, 5, 4, 3, 2, 1, 0, 0);
        waterDue(flat, "air 0 10 11;air 3 10 10;wind 3 4;", 0, 3, 6, 9, 4, 0, 0);
        waterDue(flat, "air 0 10 11;air 3 10 9;wind 3 1;", 0, 3, 6, 9, 3, 0, 0);
        waterDue(flat, "air 0 10 11;air 3 10 0;", 0, 3, 6, 9, 0);
        // It comes to STOCK, and comes on again.
        waterDue(flat + "water 6;", "air 0 10 11;air 3 10 9;air 4 10 11;", 0, 3, 6, 6, 3, 6, 6);
        SixDew d = with(flat + "water 6;", "air 0 10 11;air 3 10 9;");
        d.on(3);
        Check.due("STOCK", d.now(1), 0);
        d.on(1);
        Check.due("STOCK behind drying", d.now(1), 3);
        // What was given comes to STOCK, too.
        d = with("kind w 10 0 gives 5;row a;water 1;", "air 0 10 11;air 1 10 0;");
        d.on(2);
        Check.due("STOCK behind drying", d.now(1), 6);
        Check.due("WATER behind drying", d.now(4), 0);
    }

    private static void p11CellByCell() {
        // The flat one dries 1 at STEP 1; the cold one behind it has it in the same STEP.
        String kinds = "kind w 10 0 gives 5;kind g 10 20;water 0;";
        waterDue(kinds + "row ab;", "air 0 10 11;air 1 10 10;", 1, 0, 1, 2, 3, 4, 5, 5);
        waterDue(kinds + "row ba;", "air 0 10 11;air 1 10 10;", 0, 0, 0, 1, 2, 3, 4, 5, 5);
        // The first one has all of a small STOCK.
        waterDue("kind f 10 0;row aaa;water 5;", "air 0 10 11;", 0, 3, 3, 3);
        waterDue("kind f 10 0;row aaa;water 5;", "air 0 10 11;", 1, 2, 2, 2);
        waterDue("kind f 10 0;row aaa;water 5;", "air 0 10 11;", 2, 0, 0, 0);
    }

    private static void p12Now() {
        SixDew d = with("kind f 10 0;kind w 10 0 gives 5;kind g 10 20;row abba;water 20;",
                "air 0 10 11;air 4 10 0;");
        int[][] due = {{0, 20, 0, 0, 0}, {1, 8, 10, 4, 22}, {2, 0, 20, 4, 40}, {3, 0, 30, 4, 50}};
        for (int[] a : due) {
            for (int what = 0; what < 5; what++) {
                Check.due("now(" + what + ") behind " + a[0], d.now(what), a[what]);
            }
            d.on(1);
        }
        d.on(1);
        // D is -1000 now: each dries 26, and the second had 3 + 3 + 0 + 0 and 20.
        Check.due("now(1)", d.now(1), 60);
        Check.due("now(2)", d.now(2), 40);
        Check.due("now(3)", d.now(3), 0);
        Check.due("now(4)", d.now(4), 0);
        Check.due("now(-1)", d.now(-1), -1);
        Check.due("now(3) of 1 WATER", onBy(with("kind v 10 0 gives 1;row a;water 0;",
                "air 0 10 11;"), 1).now(3), 1);
        Check.due("now(5)", d.now(5), -1);
        Check.ground(d, "");
        for (int what = 0; what < 5; what++) {
            Check.due("now without a RUN", d.now(what), -1);
        }
    }

    private static void p14Go() {
        SixDew d = new SixDew();
        Check.due("go without a RUN", d.go(0), -2);
        d = with("kind f 10 0;row aa;water 20;", "air 0 10 11;");
        Check.due("go of no PLAN", d.go(1), -1);
        Check.due("go(-1)", d.go(-1), -2);
        Check.due("go(2)", d.go(2), -2);
        Check.plan(d, "on 2;wipe 0 0;on 1;");
        // does 0: the RUN stays as it is, again and again.
        for (int i = 0; i < 2; i++) {
            Check.due("go(0)", d.go(0), -1);
            Check.due("now(0)", d.now(0), 0);
            Check.due("now(1)", d.now(1), 20);
            Check.due("now(4)", d.now(4), 0);
        }
        Check.due("go(1)", d.go(1), -1);
        Check.due("now(0)", d.now(0), 3);
        // The wiped WATER is nowhere: 20 were there, 6 are wiped, 3 + 9 on the CELLS.
        Check.due("now(1)", d.now(1), 2);
        Check.due("WATER 0 0", Check.is(d, 0, 0, 1), 3);
        Check.due("WATER 1 0", Check.is(d, 1, 0, 1), 9);
        // cover: its SKY is 0 from then on; bare: as told again.
        d = with("kind g 10 20;row a;shade 0 0 0 50;", "");
        Check.plan(d, "on 1;cover 0 0;on 1;bare 0 0;on 1;");
        Check.due("go(0)", d.go(0), -1);
        d.on(1);
        Check.due("WARMTH", Check.is(d, 0, 0, 0), 900);
        Check.due("begin", d.begin(0), true);
        Check.due("go(1)", d.go(1), -1);
        // 1000 - 100; + 100 / 20; + 95 / 20 - 100.
        Check.due("WARMTH", Check.is(d, 0, 0, 0), 809);
        // A covered CELL stays so while the RUN is gone on with, and in it alone.
        Check.plan(d, "cover 0 0;");
        Check.due("go(1)", d.go(1), -1);
        d.on(1);
        Check.due("WARMTH", Check.is(d, 0, 0, 0), 818);
        Check.due("begin", d.begin(0), true);
        d.on(1);
        Check.due("WARMTH", Check.is(d, 0, 0, 0), 900);
    }

    private static void p14Wrong() {
        SixDew d = with("kind f 10 0;row aa;", "air 0 10 11;");
        wrongDue(d, "on 1;on 144;wipe 0 0;", 1, 1);
        wrongDue(d, "on 144;", -1, 0);
        wrongDue(d, "on 1;wipe 1 0;wipe 1 0;", 2, 2);
        wrongDue(d, "wipe 0 0;on 1;", 0, 2);
        wrongDue(d, "cover 0 0;cover 1 0;bare 0 0;cover 0 0;", -1, 0);
        wrongDue(d, "cover 0 0;cover 0 0;", 1, 3);
        wrongDue(d, "bare 0 0;", 0, 3);
        wrongDue(d, "cover 0 0;bare 0 0;bare 0 0;", 2, 3);
        // Up to the first WRONG LINE the RUN is gone on with, and no farther.
        Check.plan(d, "on 2;wipe 1 0;bare 1 0;on 1;");
        Check.due("go(1)", d.go(1), 2);
        Check.due("now(0)", d.now(0), 2);
        Check.due("WATER 1 0", Check.is(d, 1, 0, 1), 0);
        Check.due("WATER 0 0", Check.is(d, 0, 0, 1), 6);
        Check.plan(d, "on 143;");
        Check.due("go(1)", d.go(1), 0);
        Check.due("now(0)", d.now(0), 2);
        Check.plan(d, "on 142;");
        Check.due("go(1)", d.go(1), -1);
        Check.due("now(0)", d.now(0), 144);
        // One WATER is some.
        d = with("kind v 10 0 gives 1;row aa;water 0;", "air 0 10 11;");
        wrongDue(d, "on 1;wipe 0 0;", -1, 0);
        Check.due("went(3)", d.went(3), 1);
        // A CELL without SKY by shades is not covered.
        d = with("kind f 10 0;row a;shade 0 0 0 100;", "");
        wrongDue(d, "bare 0 0;", 0, 3);
        wrongDue(d, "cover 0 0;bare 0 0;", -1, 0);
    }

    private static void wrongDue(SixDew d, String plan, int line, int why) {
        Check.due("plan", Check.plan(d, plan) > 0, true);
        Check.due("go(0) of " + plan, d.go(0), line);
        Check.due("went(0) of " + plan, d.went(0), why);
    }

    private static void p15Went() {
        SixDew d = new SixDew();
        for (int what = -1; what < 6; what++) {
            Check.due("went ahead of any", d.went(what), -1);
        }
        Check.due("go without a RUN", d.go(0), -2);
        Check.due("went behind a go that was -2", d.went(0), -1);
        d = with("kind f 10 0;row aaa;", "air 0 10 11;");
        d.on(5);
        Check.plan(d, "cover 0 0;on 1;wipe 1 0;wipe 0 0;cover 2 0;on 2;wipe 2 0;on 140;on 1;");
        Check.due("go(1)", d.go(1), 7);
        int[] due = {1, 3, 60, 2, 2};
        for (int what = 0; what < due.length; what++) {
            Check.due("went(" + what + ")", d.went(what), due[what]);
        }
        Check.due("went(-1)", d.went(-1), -1);
        Check.due("went(5)", d.went(5), -1);
        Check.due("went(6)", d.went(6), -1);
        // A go that was -2 tells nothing, nor does a new GROUND.
        Check.due("go(2)", d.go(2), -2);
        Check.due("went(2)", d.went(2), 60);
        Check.plan(d, "bare 0 0;");
        Check.due("go(0)", d.go(0), -1);
        int[] next = {0, 0, 0, 2, 1};
        for (int what = 0; what < next.length; what++) {
            Check.due("went(" + what + ")", d.went(what), next[what]);
        }
        Check.ground(d, "");
        Check.due("go without a RUN", d.go(0), -2);
        Check.due("went(4)", d.went(4), 1);
    }
}
