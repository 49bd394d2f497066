/** Promises 41 to 43: images, and what is counted. */
public final class ImagesTest {
    private ImagesTest() {
    }

    public static void main(String[] args) {
        p41Image();
        p42Restore();
        p42WhatStays();
        p43Count();
        Check.finish("ImagesTest");
    }

    private static void p41Image() {
        SixDew d = new SixDew();
        for (int k : new int[] {-1, 2, Integer.MAX_VALUE, Integer.MIN_VALUE}) {
            Check.due("image(" + k + ")", d.image(k), false);
            Check.due("restore(" + k + ")", d.restore(k), false);
        }
        Check.due("restore(0)", d.restore(0), false);
        Check.due("image(1)", d.image(1), true);
        Check.due("restore(0)", d.restore(0), false);
        Check.due("restore(1)", d.restore(1), true);
        // Two places, each its own; a place is kept anew.
        Check.ground(d, "kind g 10 20;row a;");
        Check.due("image(0)", d.image(0), true);
        Check.ground(d, "kind g 10 20;row aa;");
        Check.due("restore(1)", d.restore(1), true);
        Check.due("count(0)", d.count(0), 0);
        Check.due("restore(0)", d.restore(0), true);
        Check.due("count(0)", d.count(0), 1);
        Check.ground(d, "kind g 10 20;row aaa;");
        Check.due("image(0)", d.image(0), true);
        Check.ground(d, "");
        Check.due("restore(0)", d.restore(0), true);
        Check.due("count(0)", d.count(0), 3);
    }

    private static void p42Restore() {
        SixDew d = Check.with("kind f 10 0;kind w 20 5 gives 3;row ab;shade 1 0 0 9;water 20;",
                "air 0 10 11;");
        Check.night(d, 4, "cloud 7 7;");
        Check.plan(d, "cover 0 0;on 2;wipe 0 0;");
        Check.due("begin", d.begin(0), true);
        Check.due("go(1)", d.go(1), -1);
        Check.due("image(0)", d.image(0), true);
        int[] now = new int[5];
        for (int what = 0; what < 5; what++) {
            now[what] = d.now(what);
        }
        long warmth = Check.is(d, 1, 0, 0);
        long water = Check.is(d, 1, 0, 1);
        // More than once: what is done afterwards does not touch what is kept.
        for (int i = 0; i < 2; i++) {
            d.on(9);
            Check.night(d, 0, "");
            Check.plan(d, "");
            Check.due("begin", d.begin(4), true);
            Check.ground(d, "kind q 1 1;row aaaa;row aaaa;water 3;");
            Check.night(d, 5, "");
            Check.due("begin", d.begin(5), true);
            Check.due("restore(0)", d.restore(0), true);
            int[] counts = {2, 1, 2, 1, 20, 17, 0, 3};
            for (int what = 0; what < counts.length; what++) {
                Check.due("count(" + what + ")", d.count(what), counts[what]);
            }
            Check.due("what it gives", Check.cell(d, 1, 0, 4), 3);
            Check.due("HOLD", Check.cell(d, 1, 0, 2), 20);
            Check.due("SKY", Check.cell(d, 1, 0, 1), 91);
            Check.due("line", d.sky(0, 9, 3), 11);
            Check.due("cloud", d.sky(4, 9, 0), 7);
            for (int what = 0; what < 5; what++) {
                Check.due("now(" + what + ")", d.now(what), now[what]);
            }
            Check.due("WARMTH", Check.is(d, 1, 0, 0), warmth);
            Check.due("WATER", Check.is(d, 1, 0, 1), water);
            // The CELL is covered still, and the RUN goes on by its NIGHT.
            Check.due("go(0)", d.go(0), 0);
            Check.due("went(0)", d.went(0), 3);
            d.on(1);
            Check.due("now(2)", d.now(2), now[2] + 3);
        }
        // An image without a RUN takes the RUN away.
        d = Check.with("kind f 10 0;row a;", "");
        Check.due("image(1)", d.image(1), true);
        Check.due("begin", d.begin(0), true);
        Check.due("restore(1)", d.restore(1), true);
        Check.due("now(0)", d.now(0), -1);
        Check.due("begin", d.begin(0), true);
        Check.due("now(0)", d.now(0), 0);
    }

    private static void p42WhatStays() {
        SixDew d = Check.with("kind q 1 10 gives 1;row a;water 0;", "wind 0 9;");
        Check.due("image(0)", d.image(0), true);
        Check.due("came", d.came(0, 0, 0, 72), 1);
        Check.due("drawn", d.drawn(0, 0, 0, 3, 1) >= 0, true);
        int most = d.drawnBy(1);
        Check.due("begin", d.begin(0), true);
        Check.plan(d, "on 7;");
        Check.due("go(1)", d.go(1), -1);
        Check.planFault(d, "on 700;", 3, 2);
        Check.tape(d, 1, 2, 3);
        Check.due("restore(0)", d.restore(0), true);
        Check.due("the tape", d.count(6), 3);
        Check.due("fault", d.fault(), 2);
        Check.due("went(1)", d.went(1), 7);
        Check.due("cameAt(0)", d.cameAt(0), 72);
        Check.due("drawnBy(1)", d.drawnBy(1), most);
        Check.due("the PLAN", d.count(7), 0);
        Check.due("the RUN", d.now(0), -1);
        Check.due("image", d.image(1), true);
        Check.due("the tape", d.count(6), 3);
        Check.due("end", d.end(0), true);
        Check.due("restore(1)", d.restore(1), true);
        Check.due("the tape", d.count(6), 0);
    }

    private static void p43Count() {
        SixDew d = Check.with("kind f 10 0;kind g 1 0;kind h 1 0;row abca;row aaaa;shade 3 1 1 1;"
                + "shade 3 1 1 1;shade 3 1 1 1;shade 3 1 1 1;shade 3 1 1 1;water 77;", "");
        Check.night(d, 3, "");
        Check.plan(d, "on 1;on 1;wipe 0 0;on 1;on 1;on 1;on 1;");
        Check.tape(d, 1, 2, 3);
        int[] due = {4, 2, 3, 5, 77, 9, 3, 7};
        for (int what = 0; what < due.length; what++) {
            Check.due("count(" + what + ")", d.count(what), due[what]);
        }
        for (int what : new int[] {-1, 8, Integer.MAX_VALUE, Integer.MIN_VALUE}) {
            Check.due("count(" + what + ")", d.count(what), -1);
        }
        // The STOCK of the GROUND, not that of the RUN now.
        Check.night(d, 0, "air 0 10 11;");
        Check.due("begin", d.begin(0), true);
        d.on(9);
        Check.due("count(4)", d.count(4), 77);
    }
}
