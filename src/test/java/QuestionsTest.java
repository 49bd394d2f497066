/** Promises 16 to 27: what a RUN of a SLOT tells, by answers worked out from the document. */
public final class QuestionsTest {
    /** Of KIND a CELLS stay dry; of b, c, d they have 1, 2, 5 more behind each STEP. */
    private static final String GIFTS = "kind m 10 0;kind n 10 0 gives 1;kind o 10 0 gives 2;"
            + "kind p 10 0 gives 5;water 0;";
    private static final String WET = "air 0 10 11;";
    private static final String FLAT = "kind f 10 0;row a;";
    /** WATER 3, 6, .. 15 behind STEPS 0 to 4, then 12, 9, .. 3, and 0 behind STEP 9. */
    private static final String EARLY = "air 0 10 11;air 5 10 9;";

    private QuestionsTest() {
    }

    public static void main(String[] args) {
        p16Much();
        p17Where();
        p18Begins();
        p19Gone();
        p20Wet();
        p21Spell();
        p22Sick();
        p23Frost();
        p24Slugs();
        p25Walk();
        p26Unlike();
        p27Bench();
        wrongCells();
        Check.finish("QuestionsTest");
    }

    /** Of every call with a CELL or a SLOT: no such ones. */
    private static void wrongCells() {
        String[] calls = {"begins", "gone", "wet", "spell", "frost", "roof", "catcher"};
        int[][] none = {{0, -1, 0}, {0, 4, 0}, {0, 0, -1}, {0, 0, 1}, {1, 0, 0}, {-1, 0, 0},
            {6, 0, 0}};
        SixDew d = Check.with(GIFTS + "row bbbb;", "air 0 0 11;air 1 10 11;air 5 10 0;");
        for (int[] a : none) {
            for (String call : calls) {
                Check.due(call + " of none", Faces.call(d, call, a), -1);
            }
            Check.due("much of none", d.much(a[0], a[1], a[2], 5), -1);
            Check.due("slugs of none", d.slugs(a[0], 5, a[1], a[2]), -1);
            Check.due("came of none", d.came(a[0], a[1], a[2], 5), -1);
            Check.due("story of none", d.story(a[0], a[1], a[2], 5, 0), -1);
            Check.due("part of none", d.part(a[0], a[1], a[2], 0, 1), -1);
            Check.due("drawn of none", d.drawn(a[0], a[1], a[2], 1, 1), -1);
        }
        for (int slot : new int[] {-1, 1, 6}) {
            Check.due("where of no NIGHT", d.where(slot, 5, 1), -1);
            Check.due("sick of no NIGHT", d.sick(slot, 1), -1);
            Check.due("walk of no NIGHT", d.walk(slot, 5, 0, 0), -1);
            Check.due("bench of no NIGHT", d.bench(slot, 0), -1);
            Check.due("driest of no NIGHT", d.driest(slot, 1), -1);
            Check.due("hay of no NIGHT", d.hay(slot, 9999), -1);
        }
    }

    private static void p16Much() {
        SixDew d = Check.with(GIFTS + "row abd;row cda;", WET);
        Check.due("much", d.much(0, 1, 0, 0), 1);
        Check.due("much", d.much(0, 1, 0, 71), 72);
        Check.due("much", d.much(0, 0, 1, 143), 288);
        Check.due("much", d.much(0, 2, 0, 9), 50);
        Check.due("much", d.much(0, 2, 1, 9), 0);
        Check.due("much behind -1", d.much(0, 1, 0, -1), -1);
        Check.due("much behind 144", d.much(0, 1, 0, 144), -1);
        // It is a RUN of its own: the RUN now neither shows in it nor is touched by it.
        Check.due("begin", d.begin(0), true);
        Check.plan(d, "on 3;wipe 1 0;cover 2 0;");
        Check.due("go(1)", d.go(1), -1);
        Check.due("much", d.much(0, 1, 0, 3), 4);
        Check.due("now(0)", d.now(0), 3);
        Check.due("now(4)", d.now(4), 36);
    }

    private static void p17Where() {
        SixDew d = Check.with(GIFTS + "row abd;row cda;", WET);
        Check.due("where", d.where(0, 9, 1), 4);
        Check.due("where", d.where(0, 9, 10), 4);
        Check.due("where", d.where(0, 9, 11), 3);
        Check.due("where", d.where(0, 9, 50), 2);
        Check.due("where", d.where(0, 9, 51), 0);
        Check.due("where", d.where(0, 143, 9999), 0);
        Check.due("where", d.where(0, 9, 0), -1);
        Check.due("where", d.where(0, 9, 10000), -1);
        Check.due("where", d.where(0, -1, 1), -1);
        Check.due("where", d.where(0, 144, 1), -1);
    }

    private static void p18Begins() {
        Check.due("begins", Check.with(FLAT, WET).begins(0, 0, 0), 0);
        Check.due("begins", Check.with(FLAT, "air 143 10 11;").begins(0, 0, 0), 143);
        Check.due("begins", Check.with(FLAT, "").begins(0, 0, 0), -1);
        Check.due("begins", Check.with(FLAT, "air 7 10 11;air 9 10 0;air 20 10 11;").begins(0, 0, 0), 7);
        Check.due("begins", Check.with(FLAT, "wind 0 3;air 0 10 11;wind 8 2;").begins(0, 0, 0), 8);
    }

    private static void p19Gone() {
        Check.due("gone", Check.with(FLAT, EARLY).gone(0, 0, 0), 9);
        Check.due("gone", Check.with(FLAT, "").gone(0, 0, 0), -1);
        Check.due("gone", Check.with(FLAT, WET).gone(0, 0, 0), -1);
        // Behind the last STEP with some, not the first time that it is gone.
        Check.due("gone", Check.with(FLAT, "air 0 10 11;air 1 10 0;air 30 10 11;air 32 10 0;")
                .gone(0, 0, 0), 32);
        Check.due("gone", Check.with(FLAT, "air 142 10 11;air 143 10 0;").gone(0, 0, 0), 143);
        Check.due("gone", Check.with(FLAT, "air 143 10 11;").gone(0, 0, 0), -1);
    }

    private static void p20Wet() {
        Check.due("wet", Check.with(FLAT, EARLY).wet(0, 0, 0), 9);
        Check.due("wet", Check.with(FLAT, "").wet(0, 0, 0), 0);
        Check.due("wet", Check.with(FLAT, WET).wet(0, 0, 0), 144);
        Check.due("wet", Check.with(FLAT, "air 0 10 11;air 1 10 0;air 30 10 11;air 32 10 0;")
                .wet(0, 0, 0), 3);
        Check.due("wet", Check.with(FLAT, "air 143 10 11;").wet(0, 0, 0), 1);
    }

    private static void p21Spell() {
        Check.due("spell", Check.with(FLAT, EARLY).spell(0, 0, 0), 9);
        Check.due("spell", Check.with(FLAT, "").spell(0, 0, 0), 0);
        Check.due("spell", Check.with(FLAT, WET).spell(0, 0, 0), 144);
        Check.due("spell", Check.with(FLAT, "air 0 10 11;air 1 10 0;air 30 10 11;air 32 10 0;")
                .spell(0, 0, 0), 2);
        Check.due("spell", Check.with(FLAT, "air 0 10 11;air 4 10 0;air 30 10 11;air 32 10 0;")
                .spell(0, 0, 0), 4);
        Check.due("spell", Check.with(FLAT, "air 0 10 11;air 1 10 0;air 140 10 11;").spell(0, 0, 0), 4);
    }

    private static void p22Sick() {
        // Gifts dry in the same time: 5 in all by 1 a STEP longer than 1 or 2.
        SixDew d = Check.with(GIFTS + "row abcd;", "air 0 10 11;air 1 10 10;");
        // SPELLS 0, 1, 2 and 5: of k given, 1 dries in each STEP behind STEP 0.
        int[] due = {-1, 3, 2, 1, 1, 1, 0};
        for (int n = 0; n < due.length; n++) {
            Check.due("sick(0, " + n + ")", d.sick(0, n), due[n]);
        }
        Check.due("sick(0, 144)", d.sick(0, 144), 0);
        Check.due("sick(0, 145)", d.sick(0, 145), -1);
        Check.due("sick(0, 144) of wet ones", Check.with(GIFTS + "row abcd;", WET).sick(0, 144), 3);
    }

    private static void p23Frost() {
        // WARMTH 100 A of 0, less 10 behind each STEP.
        String cold = "kind g 10 1;row a;";
        Check.due("frost", Check.with(cold, "air 0 0 1;").frost(0, 0, 0), 0);
        Check.due("frost", Check.with(cold, "air 0 0 0;").frost(0, 0, 0), 0);
        Check.due("frost", Check.with(cold, "air 0 0 1;wind 0 3;wind 6 0;").frost(0, 0, 0), 6);
        Check.due("frost", Check.with(cold, "air 0 0 1;wind 0 3;").frost(0, 0, 0), -1);
        Check.due("frost", Check.with(cold, "").frost(0, 0, 0), -1);
        // WARMTH 0 is not below 0.
        Check.due("frost", Check.with("kind f 10 0;row a;", "air 0 0 1;").frost(0, 0, 0), -1);
        // WATER first, cold later: WARMTH 1000 falls by 99 and more; L keeps it wet.
        SixDew d = Check.with("kind g 10 10;row a;", "air 0 1 40;");
        Check.due("begin", d.begin(0), true);
        d.on(1);
        Check.due("WARMTH", Check.is(d, 0, 0, 0), 0);
        Check.due("frost", d.frost(0, 0, 0), 1);
    }

    private static void p24Slugs() {
        // b wet, a dry:  b b a b
        //                a b a b
        //                b a b b   (corners do not come together)
        SixDew d = Check.with(GIFTS + "row bbab;row abab;row babb;", WET);
        int[][] due = {{3, 3, 0, 4}, {0, 3, 0, 4}, {1, 0, 4, 4}};
        for (int y = 0; y < 3; y++) {
            for (int x = 0; x < 4; x++) {
                Check.due("slugs " + x + " " + y, d.slugs(0, 5, x, y), due[y][x]);
            }
        }
        Check.due("slugs behind -1", d.slugs(0, -1, 0, 0), -1);
        Check.due("slugs behind 144", d.slugs(0, 144, 0, 0), -1);
        // A long way round, north and west, too; the end of a row is no neighbour of the next.
        d = Check.with(GIFTS + "row bbbbb;row aaaab;row bbbab;row baaab;row bbbbb;row aaaaa;row abaaa;",
                WET);
        Check.due("slugs round", d.slugs(0, 0, 2, 2), 17);
        Check.due("slugs round", d.slugs(0, 0, 0, 0), 17);
        Check.due("slugs alone", d.slugs(0, 0, 1, 6), 1);
        d = Check.with(GIFTS + "row aab;row baa;", WET);
        Check.due("slugs of a row's end", d.slugs(0, 0, 2, 0), 1);
        d = Check.with("kind f 10 0;" + Check.times("row aaaaaaaaaaaa;", 12)
                + "water 999;", WET);
        Check.due("slugs of all", d.slugs(0, 71, 11, 11), 144);
    }

    private static void p25Walk() {
        // Behind STEP 0 each CELL has what its KIND gives: 0 5 1
        //                                                  2 5 1
        //                                                  1 1 1
        SixDew d = Check.with(GIFTS + "row adb;row cdb;row bbb;", WET);
        Check.due("walk", d.walk(0, 0, 0, 2), 6);
        Check.due("walk", d.walk(0, 0, 2, 0), 6);
        Check.due("walk", d.walk(0, 0, 0, 0), 0);
        Check.due("walk", d.walk(0, 0, 1, 1), 5);
        Check.due("walk", d.walk(0, 0, 1, 2), 6);
        Check.due("walk", d.walk(0, 0, 3, 5), 6);
        Check.due("walk", d.walk(0, 9, 3, 5), 60);
        Check.due("walk", d.walk(0, 0, 0, 8), 5);
        // A dry way round is better than a short wet one.
        d = Check.with(GIFTS + "row abaaa;row abada;row aaaba;", WET);
        Check.due("walk", d.walk(0, 0, 0, 2), 0);
        Check.due("walk", d.walk(0, 0, 0, 4), 0);
        Check.due("walk", d.walk(0, 0, 0, 8), 5);
        int[][] none = {{-1, 0, 0}, {144, 0, 0}, {0, -1, 0}, {0, 0, -1}, {0, 15, 0}, {0, 0, 15},
            {0, 16, 0}, {0, 0, 16}, {0, 144, 0}, {0, 0, 144}};
        for (int[] a : none) {
            Check.due("walk of none", d.walk(0, a[0], a[1], a[2]), -1);
        }
        Check.due("walk", d.walk(0, 143, 14, 0), 0);
    }

    private static void p26Unlike() {
        SixDew d = Check.with(GIFTS + "row ab;", WET);
        Check.night(d, 1, "air 0 10 11;air 9 10 10;");
        Check.night(d, 2, "air 0 10 11;cloud 9 70;");
        Check.night(d, 5, "air 0 10 11;air 143 10 10;");
        Check.due("unlike", d.unlike(0, 1), 9);
        Check.due("unlike", d.unlike(1, 0), 9);
        Check.due("unlike", d.unlike(0, 2), -1);
        Check.due("unlike", d.unlike(0, 5), 143);
        Check.due("unlike", d.unlike(1, 5), 9);
        Check.due("unlike", d.unlike(1, 1), -1);
        for (int none : new int[] {-1, 3, 6}) {
            Check.due("unlike of none", d.unlike(0, none), -1);
            Check.due("unlike of none", d.unlike(none, 0), -1);
        }
        // The WARMTH may be unlike where the WATER is not.
        Check.night(d, 3, "air 0 20 8;");
        Check.night(d, 4, "air 0 30 8;");
        Check.due("unlike", d.unlike(3, 4), -1);
    }

    private static void p27Bench() {
        // WARMTH falls to 1000 less 20 SKY in the end: SKY 10 never makes water by L 8, 11 does.
        String grass = "kind g 10 10 gives 1;row aaa;shade 1 0 0 50;shade 2 0 0 70;water 0;";
        SixDew d = Check.with(grass, "");
        Check.due("bench", d.bench(0, 19), -1);
        Check.due("bench", d.bench(0, 20), 2);
        Check.due("bench", d.bench(0, 39), 2);
        Check.due("bench", d.bench(0, 40), 1);
        Check.due("bench", d.bench(0, 89), 1);
        Check.due("bench", d.bench(0, 90), 0);
        Check.due("bench", d.bench(0, 100), 0);
        Check.due("bench", d.bench(0, -1), -1);
        Check.due("bench", d.bench(0, 101), -1);
        d = Check.with("kind g 10 10 gives 1;row aa;row aa;shade 1 1 0 50;water 0;", "");
        Check.due("bench", d.bench(0, 40), 101);
        Check.due("bench", d.bench(0, 39), -1);
        // Water behind six does not count, water behind STEP 71 does.
        Check.due("bench", Check.with(FLAT, "air 72 10 11;").bench(0, 0), 0);
        Check.due("bench", Check.with(FLAT, "air 71 10 11;").bench(0, 0), -1);
        // Water that is gone by six does.
        Check.due("bench", Check.with(FLAT, EARLY).bench(0, 0), -1);
    }
}
