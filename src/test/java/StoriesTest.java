/** Promises 35 to 40: STORIES, hay and NIGHTS drawn, by answers worked out from the document. */
public final class StoriesTest {
    private static final String WET = "air 0 10 11;";

    private StoriesTest() {
    }

    public static void main(String[] args) {
        p35Story();
        p36Part();
        p37Tries();
        p37NotAsTold();
        p38Hay();
        p39Drawn();
        p40DrawnBy();
        Check.finish("StoriesTest");
    }

    private static void p35Story() {
        // 3 come from STOCK while there is some, 2 are given.
        SixDew d = Check.with("kind w 10 0 gives 2;row a;water 10;", "air 0 10 11;air 5 10 10;");
        int[][] due = {{5, 10, 15, 18, 20, 19, 18}, {3, 6, 9, 10, 10, 9, 8}, {2, 4, 6, 8, 10, 9, 8}};
        for (int which = 0; which < 3; which++) {
            for (int t = 0; t < due[which].length; t++) {
                Check.due("story " + which + " behind " + t, d.story(0, 0, 0, t, which),
                        due[which][t]);
            }
        }
        Check.due("story -1", d.story(0, 0, 0, 0, -1), -1);
        Check.due("story 3", d.story(0, 0, 0, 0, 3), -1);
        Check.due("story behind -1", d.story(0, 0, 0, -1, 0), -1);
        Check.due("story behind 144", d.story(0, 0, 0, 144, 0), -1);
        Check.due("story behind 143", d.story(0, 0, 0, 143, 0), 0);
        // Nor goes it there: the gift that dries makes no STOCK in STORY 2, but in 0.
        d = Check.with("kind w 10 0 gives 1;kind g 10 20;row ab;water 0;", "air 0 10 11;air 1 10 10;");
        Check.due("story 0", d.story(0, 1, 0, 1, 0), 1);
        Check.due("story 1", d.story(0, 1, 0, 1, 1), 0);
        Check.due("story 2", d.story(0, 1, 0, 1, 2), 0);
        // The question leaves the RUN now as it is.
        Check.due("begin", d.begin(0), true);
        Check.due("story 1", d.story(0, 0, 0, 0, 1), 0);
        d.on(1);
        Check.due("now(2)", d.now(2), 1);
    }

    private static void p36Part() {
        // The first CELL is given nothing, the second 2 a STEP. What was given dries and comes to
        // STOCK: 24 behind STEP 11 by STORY 0, 18 by STORY 1, which lasts from 12 to 14 alone.
        SixDew d = Check.with("kind f 10 0;kind w 10 0 gives 2;row ab;water 18;",
                "air 4 10 11;air 9 10 10;wind 9 4;wind 12 0;air 12 10 11;");
        Check.due("part 0 1", d.part(0, 0, 0, 0, 1), 15);
        Check.due("part 0 2", d.part(0, 0, 0, 0, 2), 4);
        Check.due("part 2 1", d.part(0, 0, 0, 2, 1), 4);
        Check.due("part 0 1", d.part(0, 1, 0, 0, 1), 4);
        Check.due("part 1 0", d.part(0, 1, 0, 1, 0), 4);
        Check.due("part 1 2", d.part(0, 1, 0, 1, 2), 4);
        Check.due("part 1 1", d.part(0, 1, 0, 1, 1), -1);
        Check.due("part 0 3", d.part(0, 1, 0, 0, 3), -1);
        Check.due("part 1 3", d.part(0, 1, 0, 1, 3), -1);
        Check.due("part 3 1", d.part(0, 1, 0, 3, 1), -1);
        Check.due("part -1 1", d.part(0, 1, 0, -1, 1), -1);
        Check.due("part -1 0", d.part(0, 1, 0, -1, 0), -1);
        // Never.
        d = Check.with("kind f 10 0;row a;", WET);
        Check.due("part 0 1", d.part(0, 0, 0, 0, 1), -1);
        Check.due("part 0 2", d.part(0, 0, 0, 0, 2), 0);
        d = Check.with("kind f 10 0;row a;", "air 143 10 11;");
        Check.due("part 0 2", d.part(0, 0, 0, 0, 2), 143);
    }

    private static int tries(SixDew d, int slot, int t, int... bytes) {
        Check.tape(d, bytes);
        int set = d.tries(slot, t);
        Check.due("the tape behind tries()", d.count(6), 0);
        return set;
    }

    private static void p37Tries() {
        // Behind STEP 0 by STORY 0, 1, 2: a 3 3 0; b 0 0 0 (it has no STOCK left, nothing given);
        // c 2 0 2; and with more STOCK c 5 3 2.
        String ground = "kind f 10 0;kind w 10 0 gives 2;row aab;row bbb;";
        SixDew d = Check.with(ground + "water 3;", WET);
        Check.due("tries a", tries(d, 0, 0, 0, 0), -1);
        Check.due("tries c", tries(d, 0, 0, 2, 0), -1);
        Check.due("tries a c", tries(d, 0, 0, 0, 0, 2, 0), 0b11);
        Check.due("tries b c", tries(d, 0, 0, 1, 0, 2, 0), -1);
        Check.due("tries b a c", tries(d, 0, 0, 1, 0, 0, 0, 2, 0), 0b110);
        // The least set as bits of those with the fewest.
        Check.due("tries c c a c", tries(d, 0, 0, 2, 0, 0, 1, 0, 0, 1, 1), 0b101);
        Check.due("tries 8", tries(Check.with(ground + "row aaa;water 3;", WET), 0, 0,
                1, 0, 0, 2, 1, 2, 2, 2, 0, 0, 2, 0, 0, 1, 1, 1), 0b110000);
        d = Check.with(ground + "water 99;", WET);
        Check.due("tries c", tries(d, 0, 0, 2, 0), 1);
        // One is fewer than two, be its bit the highest.
        Check.due("tries a b c", tries(d, 0, 0, 0, 0, 1, 0, 2, 0), 0b100);
        Check.due("tries a c c", tries(d, 0, 0, 0, 0, 2, 1, 2, 0), 0b010);
        // Behind that STEP and no other: dry in STEP 6 and 8.
        d = Check.with(ground + "water 99;", "air 7 10 11;air 8 10 0;");
        Check.due("tries behind 6", tries(d, 0, 6, 2, 0), -1);
        Check.due("tries behind 7", tries(d, 0, 7, 2, 0), 1);
        Check.due("tries behind 8", tries(d, 0, 8, 2, 0), -1);
        Check.due("tries by dry nights", tries(Check.with(ground, ""), 0, 9, 0, 0, 2, 0), -1);
    }

    private static void p37NotAsTold() {
        SixDew d = Check.with("kind w 10 0 gives 2;" + Check.times("row aaa;", 3), WET);
        Check.due("tries", tries(d, 0, 0, 2, 2), 1);
        Check.due("tries of no CELL", tries(d, 0, 0), -1);
        Check.due("tries of half a CELL", tries(d, 0, 0, 0), -1);
        Check.due("tries of one and a half", tries(d, 0, 0, 0, 0, 1), -1);
        Check.due("tries of X 3", tries(d, 0, 0, 3, 0), -1);
        Check.due("tries of Y 3", tries(d, 0, 0, 0, 3), -1);
        Check.due("tries of X 255", tries(d, 0, 0, 0, 0, 255, 0), -1);
        Check.due("tries of like CELLS", tries(d, 0, 0, 0, 0, 1, 0, 0, 0), -1);
        Check.due("tries of 8", tries(d, 0, 0, 0, 0, 1, 0, 2, 0, 0, 1, 1, 1, 2, 1, 0, 2, 1, 2), 1);
        Check.due("tries of 9",
                tries(d, 0, 0, 0, 0, 1, 0, 2, 0, 0, 1, 1, 1, 2, 1, 0, 2, 1, 2, 2, 2), -1);
        Check.due("tries behind -1", tries(d, 0, -1, 0, 0), -1);
        Check.due("tries behind 144", tries(d, 0, 144, 0, 0), -1);
        Check.due("tries behind 143", tries(d, 0, 143, 0, 0), 1);
        for (int slot : new int[] {-1, 1, 6}) {
            Check.due("tries of no NIGHT", tries(d, slot, 0, 0, 0), -1);
        }
    }

    private static void p38Hay() {
        // 144 WATER in one CELL behind STEP 71, 72 in two; 1 less behind each STEP by day.
        SixDew d = Check.with("kind w 10 0 gives 1;kind v 10 0 gives 2;row a;row b;row a;water 0;",
                "air 0 10 11;air 72 10 10;");
        Check.due("hay 143", d.hay(0, 143), 72);
        Check.due("hay 142", d.hay(0, 142), 73);
        Check.due("hay 72", d.hay(0, 72), 143);
        Check.due("hay 71", d.hay(0, 71), -1);
        Check.due("hay 0", d.hay(0, 0), -1);
        Check.due("hay 9999", d.hay(0, 9999), 72);
        Check.due("hay 10000", d.hay(0, 10000), -1);
        Check.due("hay -1", d.hay(0, -1), -1);
        d = Check.with("kind w 10 0 gives 1;row a;water 0;", "air 0 10 11;air 72 10 10;");
        Check.due("hay 0", d.hay(0, 0), 143);
        // Dry by night does not count, dry in between does.
        d = Check.with("kind f 10 0;row a;", "air 0 10 8;air 72 10 11;air 80 10 0;air 90 10 11;");
        Check.due("hay 0", d.hay(0, 0), 80);
        Check.due("hay of a dry day", Check.with("kind f 10 0;row a;", "").hay(0, 0), 72);
    }

    /** In this ground and wind a CELL has six for each hour behind the last CLOUDED one. */
    private static final String QUICK = "kind q 1 10 gives 1;row aa;shade 1 0 0 100;water 0;";
    private static final String WINDY = "wind 0 9;";

    /** What the NIGHTS drawn by a seed catch: how much in all, the least, the most, how many. */
    private static int[] caught(int nights, int seed) {
        int[] all = {0, Integer.MAX_VALUE, 0, 0};
        int x = seed;
        for (int i = 0; i < nights; i++) {
            int clear = 12;
            for (int hour = 0; hour < 12; hour++) {
                x = x * 1103515245 + 12345;
                clear = (x >>> 8) % 4 == 0 ? 11 - hour : clear;
            }
            all[0] += 6 * clear;
            all[1] = Math.min(all[1], 6 * clear);
            all[2] = Math.max(all[2], 6 * clear);
            all[3] += clear > 0 ? 1 : 0;
        }
        return all;
    }

    private static void p39Drawn() {
        SixDew d = Check.with(QUICK, WINDY);
        int[] seeds = {0, 1, 2, -1, 12345, Integer.MAX_VALUE, Integer.MIN_VALUE, 987654321};
        for (int seed : seeds) {
            for (int nights : new int[] {1, 2, 7, 30}) {
                Check.due("drawn " + nights + " by " + seed, d.drawn(0, 0, 0, nights, seed),
                        caught(nights, seed)[0]);
                Check.due("drawn in the shade", d.drawn(0, 1, 0, nights, seed), 0);
            }
        }
        Check.due("drawn 0", d.drawn(0, 0, 0, 0, 1), -1);
        Check.due("drawn -1", d.drawn(0, 0, 0, -1, 1), -1);
        Check.due("drawn 31", d.drawn(0, 0, 0, 31, 1), -1);
        // CLOUDED, too, beside the NIGHT's own clouds.
        Check.night(d, 1, "wind 0 9;cloud 66 100;");
        Check.due("drawn", d.drawn(1, 0, 0, 30, 5), 0);
        // Behind STEP 71, and clear again behind it.
        Check.night(d, 2, "wind 0 9;air 72 10 0;");
        Check.due("drawn", d.drawn(2, 0, 0, 9, 5), caught(9, 5)[0]);
    }

    private static void p40DrawnBy() {
        SixDew d = Check.with(QUICK, WINDY);
        for (int what = -1; what < 4; what++) {
            Check.due("drawnBy ahead of any", d.drawnBy(what), -1);
        }
        Check.due("drawn of none", d.drawn(0, 0, 0, 31, 1), -1);
        Check.due("drawnBy behind it", d.drawnBy(0), -1);
        for (int seed = -3; seed < 9; seed++) {
            int nights = 3 * seed + 10;
            int[] due = caught(Math.min(30, nights), seed);
            Check.due("drawn", d.drawn(0, 0, 0, Math.min(30, nights), seed), due[0]);
            for (int what = 0; what < 3; what++) {
                Check.due("drawnBy(" + what + ") of " + seed, d.drawnBy(what), due[what + 1]);
            }
            Check.due("drawnBy(3)", d.drawnBy(3), -1);
            Check.due("drawnBy(4)", d.drawnBy(4), -1);
            Check.due("drawnBy(-1)", d.drawnBy(-1), -1);
        }
        // One that is NONE tells nothing, nor does a new GROUND.
        Check.due("drawn in the shade", d.drawn(0, 1, 0, 4, 7), 0);
        Check.due("drawn of none", d.drawn(0, 2, 0, 4, 7), -1);
        Check.due("drawn of none", d.drawn(3, 0, 0, 4, 7), -1);
        Check.due("drawn of none", d.drawn(0, 0, 0, 0, 7), -1);
        Check.due("drawnBy(1)", d.drawnBy(1), 0);
        Check.due("drawnBy(2)", d.drawnBy(2), 0);
        Check.ground(d, "");
        Check.due("drawnBy(0)", d.drawnBy(0), 0);
    }
}
