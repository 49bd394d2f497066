/**
 * The edges that the document names for LAWN, hour, car, roof, square, KIND, STORIES, hay, NIGHTS
 * drawn, images and counts (promises 28 to 43), sentence by sentence: each method holds one, told
 * ahead of it in the document's words.
 */
public final class EdgesOfFindingTest {
    private static final String GIFTS = "kind m 10 0;kind n 10 0 gives 1;kind o 10 0 gives 2;"
            + "kind p 10 0 gives 5;water 0;";
    private static final String FLAT = "kind f 10 0;row a;";
    private static final String WET = "air 0 10 11;";
    /** Clear it has 1 more behind each STEP; hidden it is warm at once and dry soon. */
    private static final String QUICK = "kind q 1 10 gives 1;water 0;";
    private static final String WINDY = "wind 0 9;";
    private static final int[] FAR = {Integer.MAX_VALUE, Integer.MIN_VALUE};

    private EdgesOfFindingTest() {
    }

    public static void main(String[] args) {
        lawnBytes();
        lawnLengths();
        lawnSlots();
        lawnBehindSix();
        cloudedHours();
        cloudedTwelve();
        cloudedNotAsTold();
        cameEachStep();
        cameLikeAShade();
        cameSoMuch();
        cameAtOfTheLatest();
        roofByEach();
        roofNone();
        driestSquares();
        driestOfLikeOnes();
        driestNotAsTold();
        catcherOfLikeOnes();
        storiesOfNone();
        partEdges();
        triesOfEach();
        triesOfTwo();
        triesOfThree();
        triesNotAsTold();
        hayEdges();
        drawnNights();
        drawnWraps();
        drawnClouds();
        drawnByOfTheLatest();
        imagePlaces();
        restoreNothing();
        restoreStays();
        counts();
        Check.finish("EdgesOfFindingTest");
    }

    private static int lawn(SixDew d, int... bytes) {
        Check.tape(d, bytes);
        int slots = d.lawn();
        Check.due("the tape behind lawn()", d.count(6), 0);
        return slots;
    }

    private static int clouded(SixDew d, int slot, int... bytes) {
        Check.tape(d, bytes);
        int hours = d.clouded(slot);
        Check.due("the tape behind clouded()", d.count(6), 0);
        return hours;
    }

    private static int tries(SixDew d, int slot, int t, int... bytes) {
        Check.tape(d, bytes);
        int set = d.tries(slot, t);
        Check.due("the tape behind tries()", d.count(6), 0);
        return set;
    }

    /** "LAWN: for each CELL 0 dry, 1 wet, 2 not seen"; any other byte is not as told */
    private static void lawnBytes() {
        for (int at = 0; at < 3; at++) {
            for (int sign = 0; sign < 256; sign++) {
                int[] lawn = {0, 1, 2};
                lawn[at] = sign;
                int[] looks = {0, 1, 0};
                boolean so = sign == 2 || sign == looks[at];
                SixDew d = Check.with(GIFTS + "row aba;", WET);
                Check.due("lawn of " + sign + " at " + at, lawn(d, lawn), sign > 2 ? -1 : so ? 1 : 0);
                Check.due("clouded of " + sign + " at " + at, clouded(d, 0, lawn),
                        sign > 2 ? -1 : so ? 4095 : 0);
            }
        }
    }

    /** "for each CELL": a byte less or more is not as told */
    private static void lawnLengths() {
        for (int cells = 1; cells <= 12; cells++) {
            SixDew d = Check.with(GIFTS + "row " + "b".repeat(cells) + ";row " + "b".repeat(cells)
                    + ";", WET);
            for (int bytes = 2 * cells - 1; bytes <= 2 * cells + 1; bytes++) {
                int[] lawn = new int[bytes];
                java.util.Arrays.fill(lawn, 1);
                Check.due("lawn of " + bytes, lawn(d, lawn), bytes == 2 * cells ? 1 : -1);
                Check.due("clouded of " + bytes, clouded(d, 0, lawn), bytes == 2 * cells ? 4095 : -1);
            }
            Check.due("lawn of no byte", lawn(d), -1);
            Check.due("clouded of no byte", clouded(d, 0), -1);
        }
        // The most CELLS, and a tape full to its end.
        SixDew d = Check.with(GIFTS + "row bbbbbbbbbbbb;".repeat(12), WET);
        int[] all = new int[144];
        java.util.Arrays.fill(all, 1);
        Check.due("lawn of 144", lawn(d, all), 1);
        all[143] = 0;
        Check.due("lawn of 144", lawn(d, all), 0);
        all[143] = 3;
        Check.due("lawn of 144", lawn(d, all), -1);
        Check.due("lawn of 940", lawn(d, new int[940]), -1);
    }

    /** "SLOTS with a NIGHT by which the LAWN of the tape is so, as bits" */
    private static void lawnSlots() {
        for (int slots = 0; slots < 64; slots++) {
            SixDew d = new SixDew();
            Check.ground(d, GIFTS + "row b;");
            for (int slot = 0; slot < 6; slot++) {
                Check.night(d, slot, (slots >> slot & 1) == 1 ? WET : "");
            }
            Check.due("lawn, wet", lawn(d, 1), slots);
            Check.due("lawn, dry", lawn(d, 0), 63 - slots);
            Check.due("lawn, not seen", lawn(d, 2), 63);
        }
        SixDew d = new SixDew();
        Check.ground(d, GIFTS + "row b;");
        Check.due("lawn without a NIGHT", lawn(d, 2), 0);
        Check.due("lawn not as told, without a NIGHT", lawn(d, 3), -1);
    }

    /** "behind STEP 71": not one earlier, not one later */
    private static void lawnBehindSix() {
        for (int t = 69; t <= 73; t++) {
            // Wet behind STEP t alone.
            SixDew d = Check.with(FLAT, "air " + t + " 10 11;air " + (t + 1) + " 10 0;");
            Check.due("lawn, wet behind " + t, lawn(d, 1), t == 71 ? 1 : 0);
            Check.due("clouded, wet behind " + t, clouded(d, 0, 1), t == 71 ? 4095 : 0);
            Check.due("driest of it", d.driest(0, 1), 0);
            Check.due("came of it", d.came(0, 0, 0, 3), t == 71 ? 73 : 0);
            Check.due("came of none", d.came(0, 0, 0, 0), t == 71 ? 0 : 73);
            Check.due("drawn of it", d.drawn(0, 0, 0, 30, 1), t == 71 ? 90 : 0);
        }
    }

    /** "CLOUDED in an hour (0 to 11): C is 100 in its six STEPS" */
    private static void cloudedHours() {
        for (int t = 0; t < 72; t++) {
            // Clear in STEP t alone: so cold then that it is wet at six, but for a CLOUDED hour.
            String night = (t > 0 ? "cloud 0 100;" : "") + "cloud " + t + " 0;cloud " + (t + 1)
                    + " 100;";
            SixDew d = Check.with("kind g 1 99;row a;water 999;", night);
            Check.due("wet by STEP " + t, d.much(0, 0, 0, 71) > 0, true);
            Check.due("clouded, dry, clear in " + t, clouded(d, 0, 0), 1 << t / 6);
            Check.due("clouded, wet, clear in " + t, clouded(d, 0, 1), 4095 - (1 << t / 6));
        }
    }

    /** "Hours (bits) such that, if that one is CLOUDED, too": each alone, beside the NIGHT's clouds */
    private static void cloudedTwelve() {
        SixDew d = Check.with("kind g 1 99;row a;water 999;", "cloud 0 100;");
        Check.due("clouded, cloudy already", clouded(d, 0, 0), 4095);
        Check.due("clouded, cloudy already", clouded(d, 0, 1), 0);
        // Clear in the last STEP of one hour and the first one of the next: no one hour hides both.
        for (int t = 0; t <= 60; t += 6) {
            String night = "cloud 0 100;cloud " + (t + 5) + " 0;cloud " + (t + 7) + " 100;";
            d = Check.with("kind g 1 99;row a;water 999;", night);
            Check.due("clouded, clear in two hours", clouded(d, 0, 0), 0);
            Check.due("clouded, clear in two hours", clouded(d, 0, 1), 4095);
        }
    }

    /** "NONE, too: not as told" */
    private static void cloudedNotAsTold() {
        for (int slot : new int[] {-1, 1, 6, FAR[0], FAR[1]}) {
            SixDew d = Check.with(QUICK + "row aa;", WINDY);
            Check.due("clouded of no NIGHT", clouded(d, slot, 1, 1), -1);
            Check.due("clouded of no NIGHT, nor a LAWN", clouded(d, slot, 1), -1);
        }
    }

    /** Clear, 9 more behind each STEP; by a car it dries 30 in the first STEP, and 50 in each other. */
    private static SixDew cars() {
        return Check.with("kind q 1 10 gives 9;row aa;water 0;", WINDY);
    }

    private static void cameDue(SixDew d, int x, int much, int many, int first, int last) {
        Check.due("came(" + much + ")", d.came(0, x, 0, much), many);
        Check.due("cameAt(0) of " + much, d.cameAt(0), first);
        Check.due("cameAt(1) of " + much, d.cameAt(1), last);
    }

    /** "CAME: STEPS 0 to 72 from which on a car stands there, SKY of that CELL being 0" */
    private static void cameEachStep() {
        for (int x = 0; x < 2; x++) {
            // 9 t less 30 and less 50 for each STEP from t + 1 to 71.
            for (int t = 61; t <= 71; t++) {
                cameDue(cars(), x, 19 + 59 * (t - 61), 1, t, t);
            }
            cameDue(cars(), x, 648, 1, 72, 72);
            cameDue(cars(), x, 0, 61, 0, 60);
        }
        // Clear in STEP 0 alone, it is so cold that it is wet at six: but for a car from 0 on.
        SixDew d = Check.with("kind g 1 99;row a;water 999;", "cloud 1 100;");
        cameDue(d, 0, 0, 1, 0, 0);
        cameDue(d, 0, d.much(0, 0, 0, 71), 72, 1, 72);
        // No SKY at all is left: any makes water here, and by a car from 0 on there is none.
        d = Check.with("kind g 10 10;row a;", "air 0 10 10;");
        cameDue(d, 0, 0, 1, 0, 0);
        // Where there is none anyway a car makes no less.
        d = Check.with("kind g 1 99;row a;shade 0 0 0 100;", "air 5 10 11;");
        cameDue(d, 0, d.much(0, 0, 0, 71), 73, 0, 72);
    }

    /** "SKY of that CELL being 0", of that one alone: a shade of 100 there makes a RUN like it */
    private static void cameLikeAShade() {
        String ground = "kind g 7 20;kind h 12 15;kind i 3 9;row abc;row cab;water 130;";
        String night = "cloud 0 20;air 0 11 8;cloud 30 60;air 40 9 7;wind 50 1;";
        for (int c = 0; c < 6; c++) {
            int x = c % 3;
            int y = c / 3;
            SixDew shaded = Check.with(ground + "shade " + x + " " + y + " 0 100;", night);
            SixDew d = Check.with(ground, night);
            Check.due("came", d.came(0, x, y, shaded.much(0, x, y, 71)) >= 1, true);
            Check.due("cameAt(0)", d.cameAt(0), 0);
            Check.due("came", d.came(0, x, y, d.much(0, x, y, 71)) >= 1, true);
            Check.due("cameAt(1)", d.cameAt(1), 72);
        }
    }

    /** "there is just so much"; "how many such STEPS" */
    private static void cameSoMuch() {
        SixDew d = cars();
        int all = 0;
        for (int much = -3; much <= 660; much++) {
            d = much % 400 == 0 ? cars() : d;
            all += d.came(0, 0, 0, much);
        }
        Check.due("came, all STEPS", all, 73);
        for (int much : new int[] {-1, 1, 18, 20, 608, 610, 647, 649, FAR[0], FAR[1]}) {
            cameDue(cars(), 0, much, 0, -1, -1);
        }
    }

    /**
     * "the first (what 0), the last (1) of the latest came() that was not NONE; NONE: there is none
     * .."
     */
    private static void cameAtOfTheLatest() {
        SixDew d = cars();
        for (int what = -1; what <= 2; what++) {
            Check.due("cameAt ahead of any", d.cameAt(what), -1);
        }
        Check.due("came of none", d.came(0, 2, 0, 0), -1);
        Check.due("cameAt ahead of any", d.cameAt(0), -1);
        cameDue(d, 0, 609, 1, 71, 71);
        cameDue(d, 0, 0, 61, 0, 60);
        for (int what : new int[] {-1, 2, FAR[0], FAR[1]}) {
            Check.due("cameAt(" + what + ")", d.cameAt(what), -1);
        }
        Check.due("came of none", d.came(0, 0, 1, 609), -1);
        Check.due("came of none", d.came(3, 0, 0, 609), -1);
        Check.due("cameAt(0) of the latest", d.cameAt(0), 0);
        Check.due("cameAt(1) of the latest", d.cameAt(1), 60);
        cameDue(d, 0, 1, 0, -1, -1);
        Check.due("came of none", d.came(6, 0, 0, 609), -1);
        Check.due("cameAt(0) of the latest", d.cameAt(0), -1);
    }

    private static String skyOf(int sky) {
        return sky < 100 ? "shade 0 0 0 " + (100 - sky) + ";" : "";
    }

    /** "ROOF: the least N (0 to 100)": with L as A any SKY at all makes water */
    private static void roofByEach() {
        for (int sky = 0; sky <= 100; sky++) {
            SixDew d = Check.with("kind g 10 10;row a;" + skyOf(sky), "air 0 10 10;");
            Check.due("roof over SKY " + sky, d.roof(0, 0, 0), sky);
            // Under clouds none is wanted.
            Check.night(d, 0, "cloud 0 100;");
            Check.due("roof under clouds", d.roof(0, 0, 0), 0);
        }
    }

    /** "NONE, too: none does": water by the air alone comes under any roof, up to STEP 71 */
    private static void roofNone() {
        Check.due("roof in wet air", Check.with(FLAT, WET).roof(0, 0, 0), -1);
        Check.due("roof in wet air", Check.with(FLAT + skyOf(0), WET).roof(0, 0, 0), -1);
        for (int t : new int[] {0, 1, 70, 71, 72, 143}) {
            SixDew d = Check.with(FLAT, "air " + t + " 10 11;" + (t < 143 ? "air " + (t + 1)
                    + " 10 0;" : ""));
            Check.due("roof, wet behind " + t, d.roof(0, 0, 0), t <= 71 ? -1 : 0);
        }
        // "(0 at least)": a SKY of 0 is not less by N, and keeps nothing dry.
        Check.due("roof without SKY", Check.with("kind g 1 99;row a;shade 0 0 0 100;", "air 5 10 11;")
                .roof(0, 0, 0), -1);
        // The roof is of that CELL alone: its neighbour has the STOCK all the same.
        SixDew d = Check.with("kind g 10 10;row aa;water 3;", "air 0 10 10;");
        Check.due("roof of the first", d.roof(0, 0, 0), 100);
        Check.due("roof of the second", d.roof(0, 1, 0), 0);
    }

    /** "DRIEST of n by n (1 to 12) .. NONE, too: there is no such square" */
    private static void driestSquares() {
        for (int columns = 1; columns <= 12; columns++) {
            for (int rows = 1; rows <= 12; rows++) {
                SixDew d = Check.with("kind f 10 0;" + ("row " + "a".repeat(columns)
                        + ";").repeat(rows), "");
                for (int n = -1; n <= 14; n++) {
                    boolean there = n >= 1 && n <= columns && n <= rows;
                    Check.due("driest " + n + " of " + columns + " by " + rows, d.driest(0, n),
                            there ? 0 : -1);
                }
                for (int far : FAR) {
                    Check.due("driest " + far, d.driest(0, far), -1);
                }
            }
        }
    }

    /** "(of like ones the first by Y, then X)"; "100 Y and X" */
    private static void driestOfLikeOnes() {
        for (int first = 0; first < 12; first++) {
            for (int next = first; next < 12; next++) {
                // All are wet but these: four columns, three rows.
                StringBuilder rows = new StringBuilder(GIFTS);
                for (int c = 0; c < 12; c++) {
                    rows.append(c % 4 == 0 ? "row " : "").append(c == first || c == next ? 'a' : 'b');
                    rows.append(c % 4 == 3 ? ";" : "");
                }
                SixDew d = Check.with(rows.toString(), WET);
                Check.due("driest 1", d.driest(0, 1), 100 * (first / 4) + first % 4);
            }
        }
        // The square in the last corner, and the one that is there at all.
        String wet = "row bbbbbbbbbbbb;";
        SixDew d = Check.with(GIFTS + wet.repeat(11) + "row bbbbbbbbbbba;", WET);
        Check.due("driest 1", d.driest(0, 1), 1111);
        Check.due("driest 2", d.driest(0, 2), 1010);
        Check.due("driest 11", d.driest(0, 11), 101);
        Check.due("driest 12", d.driest(0, 12), 0);
        d = Check.with(GIFTS + "row bbbbbbbbbbba;" + wet.repeat(11), WET);
        Check.due("driest 11", d.driest(0, 11), 1);
        d = Check.with(GIFTS + wet.repeat(11) + "row abbbbbbbbbbb;", WET);
        Check.due("driest 11", d.driest(0, 11), 100);
    }

    /** "the least WATER behind STEP 71": not one earlier, not one later */
    private static void driestNotAsTold() {
        for (int t = 69; t <= 73; t++) {
            // The first CELL is wet behind STEP t alone, the second never.
            SixDew d = Check.with("kind n 10 0 gives 1;kind m 10 0;row ab;water 0;",
                    "air " + t + " 10 11;air " + (t + 1) + " 10 0;");
            Check.due("driest, wet behind " + t, d.driest(0, 1), t == 71 ? 1 : 0);
            Check.due("catcher, wet behind " + t, d.catcher(0, 1, 0), 0);
            d = Check.with("kind m 10 0;kind n 10 0 gives 1;row ab;water 0;",
                    "air " + t + " 10 11;air " + (t + 1) + " 10 0;");
            Check.due("catcher, wet behind " + t, d.catcher(0, 0, 0), t == 71 ? 1 : 0);
        }
    }

    /** "CATCHER: the KIND with most WATER .. (of like ones the least)" */
    private static void catcherOfLikeOnes() {
        for (int first = 0; first < 8; first++) {
            for (int next = first; next < 8; next++) {
                StringBuilder kinds = new StringBuilder();
                for (int k = 0; k < 8; k++) {
                    int gift = k == first || k == next ? 2 : 1;
                    kinds.append("kind ").append((char) ('m'
                            + k)).append(" 10 0 gives ").append(gift).append(';');
                }
                SixDew d = Check.with(kinds + "row hg;water 0;", WET);
                Check.due("catcher", d.catcher(0, 0, 0), first);
                Check.due("catcher", d.catcher(0, 1, 0), first);
            }
        }
        Check.due("catcher of one KIND", Check.with(FLAT, WET).catcher(0, 0, 0), 0);
        SixDew dry = Check.with("kind f 1 0;kind g 2 0;row b;", "");
        Check.due("catcher of none wet", dry.catcher(0, 0, 0), 0);
    }

    /** "by a STORY (0 to 2)"; "of STORIES a, b .. NONE, too: .. no such ones" */
    private static void storiesOfNone() {
        SixDew d = Check.with("kind w 10 0 gives 2;row a;", WET);
        int[] due = {5, 3, 2};
        for (int a = -1; a <= 3; a++) {
            boolean there = a >= 0 && a <= 2;
            Check.due("story " + a, d.story(0, 0, 0, 0, a), there ? due[a] : -1);
            for (int b = -1; b <= 3; b++) {
                boolean both = there && b >= 0 && b <= 2 && a != b;
                Check.due("part " + a + " " + b, d.part(0, 0, 0, a, b), both ? 0 : -1);
            }
        }
        for (int far : FAR) {
            Check.due("story " + far, d.story(0, 0, 0, 0, far), -1);
            Check.due("part " + far, d.part(0, 0, 0, far, 0), -1);
            Check.due("part " + far, d.part(0, 0, 0, 0, far), -1);
        }
    }

    /** "PART .. the first STEP behind which their WATER is unlike"; "never" */
    private static void partEdges() {
        for (int t = 0; t < 144; t++) {
            SixDew d = Check.with("kind w 10 0 gives 2;row a;", "air " + t + " 10 11;");
            Check.due("part 0 1 at " + t, d.part(0, 0, 0, 0, 1), t);
            Check.due("part 1 2 at " + t, d.part(0, 0, 0, 1, 2), t);
        }
        SixDew dry = Check.with("kind w 10 0 gives 2;row a;", "");
        Check.due("part, never wet", dry.part(0, 0, 0, 0, 1), -1);
        Check.due("part, nothing given", Check.with(FLAT, WET).part(0, 0, 0, 0, 1), -1);
        Check.due("part, no STOCK", Check.with("kind w 10 0 gives 2;row a;water 0;", WET)
                .part(0, 0, 0, 0, 2), -1);
    }

    /** All CELLS of one row of so many, in the tape's order from first to last or back. */
    private static int[] rowOf(int cells, boolean back) {
        int[] bytes = new int[2 * cells];
        for (int i = 0; i < cells; i++) {
            bytes[2 * i] = back ? cells - 1 - i : i;
        }
        return bytes;
    }

    private static final String TRIED = "kind f 10 0;kind g 10 10;kind w 10 10 gives 2;";

    /** "(1 to 8) the fewest .. (then the least set as bits)": of those of one CELL the least */
    private static void triesOfEach() {
        for (int cells = 1; cells <= 8; cells++) {
            for (int at = 0; at < cells; at++) {
                // The KIND w alone has 5, 3 and 2 by the STORIES; f stays dry.
                String row = "a".repeat(at) + "c" + "a".repeat(cells - at - 1);
                SixDew d = Check.with(TRIED + "row " + row + ";", "air 0 10 10;");
                Check.due("tries " + row, tries(d, 0, 0, rowOf(cells, false)), 1 << at);
                Check.due("tries back " + row, tries(d, 0, 0, rowOf(cells, true)), 1 << cells - 1 - at);
            }
            SixDew d = Check.with(TRIED + "row " + "c".repeat(cells) + ";", "air 0 10 10;");
            Check.due("tries of like ones", tries(d, 0, 0, rowOf(cells, false)), 1);
            d = Check.with(TRIED + "row " + "a".repeat(cells) + ";", "air 0 10 10;");
            Check.due("tries, no set does", tries(d, 0, 0, rowOf(cells, false)), -1);
        }
    }

    /** "the fewest by whose WATER behind a STEP all three STORIES are unlike": two, if no one does */
    private static void triesOfTwo() {
        for (int g = 0; g < 8; g++) {
            for (int w = g + 1; w < 8; w++) {
                // g takes all the STOCK: 3, 3, 0; w is given 2: 2, 0, 2; so are those behind it.
                String row = "a".repeat(g) + "b" + "a".repeat(w - g - 1) + "c".repeat(8 - w);
                SixDew d = Check.with(TRIED + "row " + row + ";water 3;", "air 0 10 10;");
                Check.due("tries " + row, tries(d, 0, 0, rowOf(8, false)), 1 << g | 1 << w);
                // Back, the least two are the last of the w's, told first, and the g.
                Check.due("tries back " + row, tries(d, 0, 0, rowOf(8, true)), 1 | 1 << 7 - g);
                // Without the g there is none that parts STORIES 0 and 2.
                Check.due("tries, no set does", tries(d, 0, 0, w, 0), -1);
                Check.due("tries, no set does", tries(d, 0, 0, g, 0), -1);
            }
        }
    }

    /** "the fewest": one that does ahead of two that do; "all three STORIES are unlike" */
    private static void triesOfThree() {
        // g has 3, 3, 0; what is given 3 has 6, 3, 3; both part all; so does w alone: 5, 3, 2.
        String kinds = "kind f 10 0;kind g 10 10;kind v 10 10 gives 3;kind w 10 10 gives 2;";
        String[] rows = {"b", "c", "bb", "cc", "bc", "cb", "abc", "bcd", "cbd", "bbccd", "dbc", "bdc",
            "aacbb", "bccbdd"};
        int[] due = {-1, -1, -1, -1, 3, 3, 6, 4, 4, 16, 1, 2, 12, 16};
        for (int i = 0; i < rows.length; i++) {
            SixDew d = Check.with(kinds + "row " + rows[i] + ";", "air 0 10 10;");
            Check.due("tries " + rows[i], tries(d, 0, 0, rowOf(rows[i].length(), false)), due[i]);
        }
        // What was given dried and comes on elsewhere: 24 by STORY 0, 18 by 1, none by 2.
        SixDew d = Check.with("kind f 10 0;kind w 10 0 gives 2;row ab;water 18;",
                "air 4 10 11;air 9 10 10;wind 9 4;wind 12 0;air 12 10 11;");
        Check.due("tries behind 14", tries(d, 0, 14, 0, 0), -1);
        Check.due("tries behind 15", tries(d, 0, 15, 0, 0), 1);
    }

    /** "the tape's bytes being CELLS (X, Y each, unlike) .. NONE, too: no set does, not as told" */
    private static void triesNotAsTold() {
        SixDew d = Check.with("kind w 10 0 gives 2;row aaaaa;row aaaaa;", WET);
        for (int bytes = 0; bytes <= 20; bytes++) {
            int[] tape = new int[bytes];
            for (int i = 0; i < bytes; i++) {
                tape[i] = i % 2 == 0 ? i / 2 % 5 : i / 10;
            }
            boolean told = bytes >= 2 && bytes <= 16 && bytes % 2 == 0;
            Check.due("tries of " + bytes + " bytes", tries(d, 0, 0, tape), told ? 1 : -1);
        }
        for (int at = 0; at < 8; at++) {
            for (int like = 0; like < 8; like++) {
                d = Check.with("kind w 10 0 gives 2;row aaaaaaaa;", WET);
                int[] tape = rowOf(8, false);
                tape[2 * at] = like;
                Check.due("tries, " + at + " like " + like, tries(d, 0, 0, tape), at == like ? 1 : -1);
            }
            int[][] outside = {{8, 0}, {0, 1}, {255, 0}, {0, 255}, {8, 255}};
            for (int[] none : outside) {
                int[] tape = rowOf(8, false);
                tape[2 * at] = none[0];
                tape[2 * at + 1] = none[1];
                Check.due("tries of no CELL", tries(d, 0, 0, tape), -1);
            }
        }
        d = Check.with("kind w 10 0 gives 2;row aaaaa;row aaaaa;", WET);
        Check.due("tries of 940 bytes", tries(d, 0, 0, new int[940]), -1);
        for (int slot : new int[] {-1, 1, 6, FAR[0], FAR[1]}) {
            Check.due("tries of no NIGHT", tries(d, slot, 0, 0, 0), -1);
        }
    }

    /** "The first STEP from 72 on behind which no CELL has more than so much WATER (0 to 9999)" */
    private static void hayEdges() {
        for (int t = 70; t <= 143; t++) {
            String night = "air 0 10 11;air " + t + " 10 0;wind " + t + " 9;";
            Check.due("hay, dry from " + t, Check.with(GIFTS + "row ab;", night).hay(0, 0),
                    Math.max(72, t));
        }
        Check.due("hay, never dry", Check.with(GIFTS + "row ab;", WET).hay(0, 0), -1);
        SixDew d = Check.with(GIFTS + "row ab;", WET);
        // WATER t + 1 behind STEP t: 73 is the least from 72 on.
        Check.due("hay 72", d.hay(0, 72), -1);
        Check.due("hay 73", d.hay(0, 73), 72);
        for (int most : new int[] {-2, -1, 10000, FAR[0], FAR[1]}) {
            Check.due("hay " + most, d.hay(0, most), -1);
        }
        Check.due("hay 9999", d.hay(0, 9999), 72);
        Check.due("hay 0 of a dry NIGHT", Check.with(FLAT, "").hay(0, 0), 72);
    }

    /** What so many NIGHTS drawn by a seed catch here: all, the least, the most, how many some. */
    private static int[] caught(int nights, int seed) {
        int[] all = {0, Integer.MAX_VALUE, -1, 0};
        long x = seed & 0xffffffffL;
        for (int i = 0; i < nights; i++) {
            int latest = -1;
            for (int hour = 0; hour < 12; hour++) {
                x = (x * 1103515245L + 12345L) % 0x100000000L;
                latest = x / 256 % 4 == 0 ? hour : latest;
            }
            // Dry behind the latest CLOUDED hour, and 1 more behind each of six STEPS an hour.
            int water = 6 * (11 - latest);
            all[0] += water;
            all[1] = Math.min(all[1], water);
            all[2] = Math.max(all[2], water);
            all[3] += water > 0 ? 1 : 0;
        }
        return all;
    }

    private static void drawnDue(SixDew d, int nights, int seed) {
        int[] due = caught(nights, seed);
        Check.due("drawn " + nights + " by " + seed, d.drawn(0, 0, 0, nights, seed), due[0]);
        for (int what = 0; what < 3; what++) {
            Check.due("drawnBy(" + what + ") of " + nights + " by " + seed, d.drawnBy(what),
                    due[what + 1]);
        }
    }

    /** "DRAWN nights (1 to 30)"; "not as told" */
    private static void drawnNights() {
        SixDew d = Check.with(QUICK + "row a;", WINDY);
        for (int nights = 1; nights <= 30; nights++) {
            drawnDue(d, nights, 77);
        }
        int[] due = caught(30, 77);
        for (int nights : new int[] {-1, 0, 31, 32, FAR[0], FAR[1]}) {
            Check.due("drawn " + nights, d.drawn(0, 0, 0, nights, 1), -1);
            Check.due("drawnBy behind it", d.drawnBy(1), due[2]);
        }
    }

    /** "x becomes x * 1103515245 + 12345 (an int, wrapping), the draw is (x >>> 8) % n" */
    private static void drawnWraps() {
        int[] seeds = {0, 1, -1, 2, -2, 255, 256, 65535, 65536, 0x7fffff00, 0x80000000, 0x7fffffff,
            0x80000001, -12345, 1103515245, -1103515245, 0x12345678, 0xdeadbeef};
        for (int seed : seeds) {
            SixDew d = Check.with(QUICK + "row a;", WINDY);
            drawnDue(d, 1, seed);
            drawnDue(d, 30, seed);
        }
        SixDew d = Check.with(QUICK + "row a;", WINDY);
        for (int seed = -60; seed < 60; seed++) {
            drawnDue(d, 2, seed * 35791397);
        }
    }

    /** "0: it is CLOUDED; WATER of a CELL behind STEP 71 is caught" */
    private static void drawnClouds() {
        SixDew d = Check.with(QUICK + "row aa;shade 1 0 0 100;", WINDY);
        Check.due("drawn in the shade", d.drawn(0, 1, 0, 30, 5), 0);
        for (int what = 0; what < 3; what++) {
            Check.due("drawnBy(" + what + ")", d.drawnBy(what), 0);
        }
        // Beside the NIGHT's own clouds, that stay.
        Check.night(d, 3, "cloud 0 100;wind 0 9;");
        Check.due("drawn of a cloudy NIGHT", d.drawn(3, 0, 0, 30, 1), 0);
        // One WATER is some; and C is 100, no more, in a CLOUDED hour: D stays 100.
        d = Check.with("kind n 10 0 gives 1;row a;water 0;", "air 71 10 11;");
        Check.due("drawn, one a night", d.drawn(0, 0, 0, 30, 1), 30);
        Check.due("drawnBy(2)", d.drawnBy(2), 30);
        d = Check.with("kind g 1 99;row a;water 999;", "cloud 0 100;air 0 10 11;");
        Check.due("drawn in wet air", d.drawn(0, 0, 0, 30, 1), 30 * 3 * 72);
        Check.due("drawnBy(0)", d.drawnBy(0), 216);
        Check.due("drawnBy(1)", d.drawnBy(1), 216);
        // What a CLOUDED hour can't keep off is caught each night.
        d = Check.with(GIFTS + "row d;", WET);
        Check.due("drawn in wet air", d.drawn(0, 0, 0, 30, 1), 30 * 5 * 72);
        Check.due("drawnBy(0)", d.drawnBy(0), 360);
        Check.due("drawnBy(1)", d.drawnBy(1), 360);
        Check.due("drawnBy(2)", d.drawnBy(2), 30);
    }

    /** "Of the latest drawn() that was not NONE: .. NONE: another what, or ahead of any" */
    private static void drawnByOfTheLatest() {
        SixDew d = Check.with(QUICK + "row a;", WINDY);
        for (int what = -1; what <= 3; what++) {
            Check.due("drawnBy ahead of any", d.drawnBy(what), -1);
        }
        Check.due("drawn of none", d.drawn(0, 0, 0, 0, 1), -1);
        Check.due("drawnBy ahead of any", d.drawnBy(0), -1);
        drawnDue(d, 9, 4);
        drawnDue(d, 5, 3);
        for (int[] none : new int[][] {{1, 0, 0}, {-1, 0, 0}, {6, 0, 0}, {0, 1, 0}, {0, 0, -1}}) {
            Check.due("drawn of none", d.drawn(none[0], none[1], none[2], 9, 4), -1);
        }
        int[] due = caught(5, 3);
        for (int what = 0; what < 3; what++) {
            Check.due("drawnBy(" + what + ") of the latest", d.drawnBy(what), due[what + 1]);
        }
        for (int what : new int[] {-1, 3, 4, FAR[0], FAR[1]}) {
            Check.due("drawnBy(" + what + ")", d.drawnBy(what), -1);
        }
    }

    /** "are kept in place k (0, 1): true; false: no such one" */
    private static void imagePlaces() {
        for (int k = -2; k <= 3; k++) {
            SixDew d = Check.with(FLAT, WET);
            boolean there = k == 0 || k == 1;
            Check.due("image(" + k + ")", d.image(k), there);
            Check.due("restore(" + k + ")", d.restore(k), there);
            Check.due("restore of the other place", d.restore(1 - k), false);
        }
        SixDew d = new SixDew();
        for (int far : FAR) {
            Check.due("image(" + far + ")", d.image(far), false);
            Check.due("restore(" + far + ")", d.restore(far), false);
        }
        // A new object's emptiness can be kept, too.
        Check.due("image(1)", d.image(1), true);
        Check.ground(d, FLAT);
        Check.night(d, 0, "");
        Check.due("restore(1)", d.restore(1), true);
        Check.due("columns", d.count(0), 0);
        Check.due("SLOTS", d.count(5), 0);
    }

    /** "false: no such one, or nothing is kept there": nothing is changed then */
    private static void restoreNothing() {
        SixDew d = Check.with(FLAT, WET);
        Check.due("image(0)", d.image(0), true);
        Check.due("begin", d.begin(0), true);
        Check.due("on", d.on(5), 5);
        String ahead = Check.seen(d);
        for (int k : new int[] {1, -1, 2}) {
            Check.due("restore(" + k + ")", d.restore(k), false);
            Check.same("all is as it was", Check.seen(d), ahead);
        }
    }

    /** "They are as kept in place k (the tape, and what other calls told last, stays)" */
    private static void restoreStays() {
        SixDew d = Check.with("kind g 10 10 gives 1;row aa;water 40;", "air 0 10 11;");
        Check.planDue(d, "on 3;cover 0 0;", 2);
        Check.due("begin", d.begin(0), true);
        Check.due("go(1)", d.go(1), -1);
        String kept = Check.seen(d);
        Check.due("image(0)", d.image(0), true);
        Check.same("image(0) changes nothing", Check.seen(d), kept);
        Check.due("on", d.on(9), 9);
        Check.due("night()", d.night(0), 0);
        Check.due("plan()", d.plan(), 0);
        Check.due("restore(0)", d.restore(0), true);
        Check.same("all is as kept", Check.seen(d), kept);
        Check.due("ground()", d.ground(), 0);
        Check.due("restore(0)", d.restore(0), true);
        Check.same("all is as kept", Check.seen(d), kept);
        // The RUN goes on as it would have.
        Check.due("on", d.on(1), 1);
        int stock = d.now(1);
        Check.due("restore(0)", d.restore(0), true);
        Check.due("on", d.on(1), 1);
        Check.due("STOCK", d.now(1), stock);
        // The tape, FAULT, went(), cameAt() and drawnBy() are not kept.
        Check.planFault(d, "on 0;", 3, 2);
        Check.due("plan()", Check.plan(d, "on 7;on 7;"), 2);
        Check.due("go(0)", d.go(0), -1);
        Check.due("came", d.came(0, 0, 0, 0) >= 0, true);
        Check.due("drawn", d.drawn(0, 0, 0, 3, 3) > 0, true);
        Check.planFault(d, "on 0;", 3, 2);
        int[] told = {d.fault(), d.went(1), d.cameAt(0), d.cameAt(1), d.drawnBy(0), d.drawnBy(1)};
        Check.tape(d, Check.bytes("water 7;"));
        Check.due("restore(0)", d.restore(0), true);
        int[] now = {d.fault(), d.went(1), d.cameAt(0), d.cameAt(1), d.drawnBy(0), d.drawnBy(1)};
        for (int i = 0; i < told.length; i++) {
            Check.due("told last " + i, now[i], told[i]);
        }
        Check.due("went(1)", d.went(1), 14);
        Check.due("ground() of the tape that stayed", d.ground(), 1);
        Check.due("STOCK", d.count(4), 7);
    }

    /** "0 columns, .. 7 LINES of the PLAN. NONE for another what" */
    private static void counts() {
        SixDew d = new SixDew();
        int[] empty = {0, 0, 0, 0, 500, 0, 0, 0};
        StringBuilder most = new StringBuilder();
        for (char k = 'm'; k < 'm' + 8; k++) {
            most.append("kind ").append(k).append(" 1 0;");
        }
        most.append("row abcdefghabcd;".repeat(12));
        most.append("shade 11 11 9 1;".repeat(12)).append("water 999;");
        int[] full = {12, 12, 8, 12, 999, 63, 940, 30};
        for (int what = 0; what < 8; what++) {
            Check.due("count(" + what + ") of a new object", d.count(what), empty[what]);
        }
        Check.groundDue(d, most.toString(), 33);
        for (int slot = 0; slot < 6; slot++) {
            Check.due("night()", d.night(slot), 0);
        }
        Check.planDue(d, "on 1;".repeat(30), 30);
        for (int i = 0; i < 47; i++) {
            Check.due("feed", d.feed(0, 0, 0, 0, 0), 20 * i + 20);
        }
        for (int what = 0; what < 8; what++) {
            Check.due("count(" + what + ") of a full one", d.count(what), full[what]);
        }
        for (int what : new int[] {-2, -1, 8, 9, FAR[0], FAR[1]}) {
            Check.due("count(" + what + ")", d.count(what), -1);
        }
    }
}
