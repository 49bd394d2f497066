/** Promises 28 to 34: which NIGHT, hour, car, roof, square and KIND, worked out by hand. */
public final class FindingTest {
    /** Clear it has 1 more behind each STEP; hidden it is warm at once and dry soon. */
    private static final String QUICK = "kind q 1 10 gives 1;water 0;";
    private static final String WINDY = "wind 0 9;";
    private static final String GIFTS = "kind m 10 0;kind n 10 0 gives 1;kind o 10 0 gives 2;"
            + "kind p 10 0 gives 5;water 0;";
    private static final String WET = "air 0 10 11;";

    private FindingTest() {
    }

    public static void main(String[] args) {
        p28Lawn();
        p28NotAsTold();
        p29Clouded();
        p29NotAsTold();
        p30Came();
        p31CameAt();
        p32Roof();
        p33Driest();
        p34Catcher();
        Check.finish("FindingTest");
    }

    private static int lawn(SixDew d, int... bytes) {
        Check.tape(d, bytes);
        int slots = d.lawn();
        Check.due("the tape behind lawn()", d.count(6), 0);
        return slots;
    }

    private static int clouded(SixDew d, int slot, int... bytes) {
        Check.tape(d, bytes);
        int hours = d.clouded(slot);
        Check.due("the tape behind clouded()", d.count(6), 0);
        return hours;
    }

    private static void p28Lawn() {
        SixDew d = Check.with(GIFTS + "row ab;row ca;", WET);
        Check.night(d, 2, "");
        Check.night(d, 5, "air 71 10 11;");
        Check.due("lawn", lawn(d, 0, 1, 1, 0), 0b100001);
        Check.due("lawn", lawn(d, 0, 0, 0, 0), 0b000100);
        Check.due("lawn", lawn(d, 2, 2, 2, 2), 0b100101);
        Check.due("lawn", lawn(d, 2, 1, 2, 2), 0b100001);
        Check.due("lawn", lawn(d, 1, 1, 1, 0), 0);
        Check.due("lawn", lawn(d, 0, 1, 0, 0), 0);
        // Behind STEP 71, not STEP 70 or 72.
        Check.night(d, 0, "air 0 10 11;air 72 10 0;");
        Check.night(d, 2, "air 0 10 11;air 71 10 0;wind 71 9;");
        Check.night(d, 5, "air 72 10 11;");
        Check.due("lawn", lawn(d, 0, 1, 1, 0), 0b000001);
        Check.due("lawn", lawn(d, 0, 0, 0, 0), 0b100100);
    }

    private static void p28NotAsTold() {
        SixDew d = Check.with(GIFTS + "row ab;row ca;", WET);
        Check.due("lawn of 3", lawn(d, 0, 1, 1), -1);
        Check.due("lawn of 5", lawn(d, 0, 1, 1, 0, 0), -1);
        Check.due("lawn of none", lawn(d), -1);
        Check.due("lawn of a 3", lawn(d, 0, 1, 1, 3), -1);
        Check.due("lawn of a 255", lawn(d, 255, 1, 1, 0), -1);
        Check.due("lawn of a text", lawn(d, '0', '1', '1', '0'), -1);
        d = new SixDew();
        Check.ground(d, "kind f 10 0;row a;");
        Check.due("lawn without a NIGHT", lawn(d, 0), 0);
    }

    private static void p29Clouded() {
        SixDew d = Check.with(QUICK + "row a;", WINDY);
        Check.due("much", d.much(0, 0, 0, 71), 72);
        Check.due("clouded, wet", clouded(d, 0, 1), 2047);
        Check.due("clouded, dry", clouded(d, 0, 0), 2048);
        Check.due("clouded, not seen", clouded(d, 0, 2), 4095);
        // 'Too': beside the NIGHT's own clouds, that stay.
        Check.night(d, 1, "wind 0 9;cloud 66 100;");
        Check.due("clouded, dry", clouded(d, 1, 0), 4095);
        Check.due("clouded, wet", clouded(d, 1, 1), 0);
        // The six STEPS of an hour and no others: dry in STEP 65 to 70, wet in STEP 71.
        Check.night(d, 2, "wind 0 9;cloud 0 100;cloud 60 0;cloud 66 100;cloud 71 0;");
        Check.due("clouded, wet", clouded(d, 2, 1), 2047);
        Check.night(d, 3, "wind 0 9;cloud 0 100;cloud 6 0;cloud 12 100;");
        Check.due("much behind 11", d.much(3, 0, 0, 11), 6);
        // Two CELLS: one hidden, one clear.
        d = Check.with(QUICK + "row aa;shade 0 0 0 100;", WINDY);
        Check.due("clouded", clouded(d, 0, 0, 1), 2047);
        Check.due("clouded", clouded(d, 0, 0, 0), 2048);
        Check.due("clouded", clouded(d, 0, 1, 1), 0);
        Check.due("clouded", clouded(d, 0, 1, 2), 0);
    }

    private static void p29NotAsTold() {
        SixDew d = Check.with(QUICK + "row aa;", WINDY);
        Check.due("clouded of 1", clouded(d, 0, 1), -1);
        Check.due("clouded of 3", clouded(d, 0, 1, 1, 1), -1);
        Check.due("clouded of a 3", clouded(d, 0, 1, 3), -1);
        for (int slot : new int[] {-1, 1, 6}) {
            Check.due("clouded of no NIGHT", clouded(d, slot, 1, 1), -1);
        }
    }

    private static void p30Came() {
        SixDew d = Check.with(QUICK + "row aa;", WINDY);
        // Whenever a car comes, the CELL is dry in that STEP or soon: but for STEP 72.
        Check.due("came", d.came(0, 0, 0, 72), 1);
        Check.due("came", d.came(0, 1, 0, 72), 1);
        // From STEP 71 on one STEP of drying by 30 has it: 71 WATER less 30.
        Check.due("came", d.came(0, 0, 0, 41), 1);
        Check.due("came", d.came(0, 0, 0, 0), 71);
        Check.due("came", d.came(0, 0, 0, 1), 0);
        Check.due("came", d.came(0, 0, 0, -1), 0);
        Check.due("came", d.came(0, 0, 0, Integer.MAX_VALUE), 0);
        // A CELL that has no SKY anyway, and one that gives off nothing.
        d = Check.with(QUICK + "kind f 10 0;row ab;shade 0 0 0 100;", WINDY);
        Check.due("came", d.came(0, 0, 0, 0), 73);
        Check.due("came", d.came(0, 1, 0, 0), 73);
        // The car's CELL alone: the other one has 72 whenever the car comes.
        d = Check.with(QUICK + "row aa;", WINDY);
        Check.due("came", d.came(0, 1, 0, 0), 71);
        Check.due("much of the other", d.much(0, 0, 0, 71), 72);
    }

    private static void p31CameAt() {
        SixDew d = Check.with(QUICK + "row a;", WINDY);
        Check.due("cameAt ahead of any", d.cameAt(0), -1);
        Check.due("cameAt ahead of any", d.cameAt(1), -1);
        Check.due("came", d.came(0, 0, 0, 0), 71);
        Check.due("cameAt(0)", d.cameAt(0), 0);
        Check.due("cameAt(1)", d.cameAt(1), 70);
        Check.due("cameAt(2)", d.cameAt(2), -1);
        Check.due("cameAt(-1)", d.cameAt(-1), -1);
        // A came() that was NONE tells nothing.
        Check.due("came of none", d.came(0, 1, 0, 0), -1);
        Check.due("came of none", d.came(1, 0, 0, 0), -1);
        Check.due("cameAt(1)", d.cameAt(1), 70);
        Check.due("came", d.came(0, 0, 0, 72), 1);
        Check.due("cameAt(0)", d.cameAt(0), 72);
        Check.due("cameAt(1)", d.cameAt(1), 72);
        Check.due("came", d.came(0, 0, 0, 41), 1);
        Check.due("cameAt(0)", d.cameAt(0), 71);
        Check.ground(d, "");
        Check.due("cameAt(0) in a new GROUND", d.cameAt(0), 71);
        // There is none.
        d = Check.with(QUICK + "row a;", WINDY);
        Check.due("came", d.came(0, 0, 0, 72), 1);
        Check.due("came", d.came(0, 0, 0, 7), 0);
        Check.due("cameAt(0)", d.cameAt(0), -1);
        Check.due("cameAt(1)", d.cameAt(1), -1);
    }

    private static void p32Roof() {
        // WARMTH falls to 1000 less 20 SKY in the end: SKY 10 never makes water by L 8, 11 does.
        SixDew d = Check.with("kind g 10 10 gives 1;row aaa;row aaa;water 0;shade 1 1 0 50;"
                + "shade 2 0 0 95;", "");
        Check.due("roof", d.roof(0, 0, 0), 90);
        Check.due("roof", d.roof(0, 1, 1), 40);
        Check.due("roof", d.roof(0, 2, 0), 0);
        // Water by night's end does not count, nor does a roof help where the air is wet.
        String flat = "kind f 10 0;row a;";
        Check.due("roof", Check.with(flat, "air 72 10 11;").roof(0, 0, 0), 0);
        Check.due("roof", Check.with(flat, "air 71 10 11;").roof(0, 0, 0), -1);
        Check.due("roof", Check.with(flat, WET).roof(0, 0, 0), -1);
        Check.due("roof", Check.with(flat + "water 0;", WET).roof(0, 0, 0), 0);
        // A whole roof: with SKY 1 it is 1000 - 50 * 100 / 5000.
        Check.due("roof", Check.with("kind g 50 50;row a;", "air 0 10 10;").roof(0, 0, 0), 100);
        // A roof takes no more SKY than there is: 0 at least.
        Check.due("roof", Check.with("kind g 50 50;row a;shade 0 0 0 100;", "air 0 10 10;sun 0;")
                .roof(0, 0, 0), 0);
    }

    private static void p33Driest() {
        // Behind STEP 71: 72 times  0 5 1
        //                           2 0 1
        //                           1 0 0
        SixDew d = Check.with(GIFTS + "row adb;row cab;row baa;", WET);
        Check.due("driest 1", d.driest(0, 1), 0);
        Check.due("driest 2", d.driest(0, 2), 101);
        Check.due("driest 3", d.driest(0, 3), 0);
        Check.due("driest 4", d.driest(0, 4), -1);
        Check.due("driest 0", d.driest(0, 0), -1);
        Check.due("driest -1", d.driest(0, -1), -1);
        Check.due("driest 13", d.driest(0, 13), -1);
        Check.due("driest of the greatest int", d.driest(0, Integer.MAX_VALUE), -1);
        // Of like ones the first by Y, then X.
        d = Check.with(GIFTS + "row cbcb;row bbbc;", WET);
        Check.due("driest 1", d.driest(0, 1), 1);
        Check.due("driest 2", d.driest(0, 2), 0);
        d = Check.with(GIFTS + "row cc;row cb;row bc;", WET);
        Check.due("driest 1", d.driest(0, 1), 101);
        // There is no such square though there are columns or rows enough.
        Check.due("driest 3", d.driest(0, 3), -1);
        d = Check.with(GIFTS + "row ccca;", WET);
        Check.due("driest 1", d.driest(0, 1), 3);
        Check.due("driest 2", d.driest(0, 2), -1);
        // Behind STEP 71.
        d = Check.with(GIFTS + "row b;", "air 0 10 11;air 72 10 0;");
        Check.due("driest 1", d.driest(0, 1), 0);
        // Wet in STEP 70 and not behind, or in STEP 71 and not behind: the second CELL has less.
        d = Check.with("kind f 12 0 gives 1;kind v 10 0 gives 2;row ba;water 0;",
                "air 70 10 11;air 71 10 8;");
        Check.due("driest behind a dry STEP 71", d.driest(0, 1), 0);
        d = Check.with("kind f 12 0 gives 1;kind v 10 0 gives 2;row ba;water 0;",
                "air 71 10 11;air 72 10 8;");
        Check.due("driest behind a wet STEP 71", d.driest(0, 1), 1);
        d = Check.with("kind f 10 0;" + Check.times("row aaaaaaaaaaaa;", 12), "");
        Check.due("driest 12", d.driest(0, 12), 0);
    }

    private static void p34Catcher() {
        // The KIND that the CELL would catch most as, whatever it is told to be.
        SixDew d = Check.with(GIFTS + "row ab;", WET);
        Check.due("catcher", d.catcher(0, 0, 0), 3);
        Check.due("catcher", d.catcher(0, 1, 0), 3);
        Check.due("much still", d.much(0, 0, 0, 71), 0);
        // Of like ones the least.
        Check.due("catcher by day's warmth", Check.with(GIFTS + "row db;", "").catcher(0, 0, 0), 0);
        d = Check.with("kind m 10 0 gives 1;kind n 10 0 gives 4;kind o 10 0 gives 4;row c;", WET);
        Check.due("catcher", d.catcher(0, 0, 0), 1);
        // HOLD and GIVE of the KIND go with it, the SKY of the CELL stays.
        d = Check.with("kind f 10 0;kind g 10 20;row ab;shade 1 0 0 100;", "");
        Check.due("catcher under the SKY", d.catcher(0, 0, 0), 1);
        Check.due("catcher without SKY", d.catcher(0, 1, 0), 0);
        d = Check.with("kind f 50 10;kind g 5 10;row a;water 999;", "");
        Check.due("catcher of less HOLD", d.catcher(0, 0, 0), 1);
        // Behind STEP 71, whatever comes later.
        d = Check.with(GIFTS + "row a;", "air 72 10 11;");
        Check.due("catcher", d.catcher(0, 0, 0), 0);
    }
}
