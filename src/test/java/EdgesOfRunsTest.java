/**
 * The edges that the document names for STEPS, the RUN now and the PLAN (promises 9 to 15),
 * sentence by sentence: each method holds one, told ahead of it in the document's words.
 */
public final class EdgesOfRunsTest {
    private static final String FLAT = "kind f 10 0;row a;";
    private static final String WET = "air 0 10 11;";

    private EdgesOfRunsTest() {
    }

    public static void main(String[] args) {
        atFirst();
        divisionsOfAir();
        divisionsOfSun();
        divisionsOfSky();
        fromTheStepAhead();
        lineOfThisStep();
        lackAboveNothing();
        windOfThree();
        noMoreThanStock();
        giftFromNoStock();
        noMoreThanThereIs();
        driesByWind();
        driedComesToStock();
        cellByCell();
        beginsAnew();
        onBySoMany();
        onNotAsTold();
        isOfNone();
        nowOfNone();
        planOn();
        planWipe();
        planCover();
        planEachCell();
        firstWrongLine();
        emptyPlan();
        goNotAsTold();
        goStaysOrGoesOn();
        wentOfTheLatest();
        Check.finish("EdgesOfRunsTest");
    }

    /** A RUN of SLOT 0 that has gone on by so many STEPS. */
    private static SixDew behind(String ground, String night, int steps) {
        SixDew d = Check.with(ground, night);
        Check.due("begin", d.begin(0), true);
        Check.due("on(" + steps + ")", d.on(steps), steps);
        return d;
    }

    private static void isDue(String call, SixDew d, int warmth, int water) {
        Check.due(call + " WARMTH", Check.is(d, 0, 0, 0), warmth);
        Check.due(call + " WATER", Check.is(d, 0, 0, 1), water);
    }

    private static void nowDue(String call, SixDew d, int... due) {
        for (int what = 0; what < due.length; what++) {
            Check.due(call + " now(" + what + ")", d.now(what), due[what]);
        }
    }

    private static void wentDue(String call, SixDew d, int... due) {
        for (int what = 0; what < due.length; what++) {
            Check.due(call + " went(" + what + ")", d.went(what), due[what]);
        }
    }

    /** A shade of one CELL 0 0 that leaves it so much SKY. */
    private static String skyOf(int sky) {
        return sky < 100 ? "shade 0 0 0 " + (100 - sky) + ";" : "";
    }

    /** "At first each CELL has WARMTH 100 A (of STEP 0), no WATER; STOCK is as 'water' tells" */
    private static void atFirst() {
        for (int air = 0; air <= 40; air++) {
            SixDew d = behind(FLAT + "water " + air + ";", "air 0 " + air + " 40;air 1 7 7;", 0);
            isDue("at first", d, 100 * air, 0);
            nowDue("at first", d, 0, air, 0, 0, 0);
        }
        isDue("air told for STEP 1 alone", behind(FLAT, "air 1 20 20;", 0), 1000, 0);
        nowDue("STOCK without", behind(FLAT, "", 0), 0, 500, 0, 0, 0);
        nowDue("STOCK of 999", behind(FLAT + "water 999;", "", 0), 0, 999, 0, 0, 0);
    }

    /** "(100 A less WARMTH) times (V and 1 more) by (H and 10 more)"; "all divisions cut toward 0" */
    private static void divisionsOfAir() {
        for (int hold = 1; hold <= 50; hold++) {
            for (int wind = 0; wind <= 9; wind++) {
                String ground = "kind f " + hold + " 0;row a;";
                int comes = 100 * (wind + 1) / (hold + 10);
                String winds = "wind 1 " + wind + ";";
                isDue("warmer air", behind(ground, winds + "air 1 11 0;", 2), 1000 + comes, 0);
                isDue("colder air", behind(ground, winds + "air 1 9 0;", 2), 1000 - comes, 0);
            }
        }
        // By less than 1 it is nothing, both ways: 1 WARMTH by 11, 12 and so on.
        isDue("by the sun", behind("kind f 10 0;row a;" + skyOf(2), "sun 0;", 2), 1002, 0);
        String hidden = "air 0 10 0;cloud 1 100;";
        isDue("by the sky", behind("kind f 10 10;row a;" + skyOf(1), hidden, 9), 999, 0);
    }

    /** "and SUN times 8 SKY by H" */
    private static void divisionsOfSun() {
        for (int hold = 1; hold <= 50; hold++) {
            for (int sky : new int[] {0, 1, 33, 99, 100}) {
                String ground = "kind f " + hold + " 0;row a;" + skyOf(sky);
                isDue("sun", behind(ground, "sun 0;", 1), 1000 + 8 * sky / hold, 0);
                isDue("no sun yet", behind(ground, "sun 1;", 1), 1000, 0);
            }
        }
    }

    /** "less SKY times (100 less C) times G by 100 H" */
    private static void divisionsOfSky() {
        for (int cloud = 0; cloud <= 100; cloud++) {
            String night = "air 0 10 0;cloud 0 " + cloud + ";";
            int less = 33 * (100 - cloud) * 7 / 900;
            isDue("cloud " + cloud, behind("kind g 9 7;row a;" + skyOf(33), night, 1), 1000 - less, 0);
        }
        for (int give = 0; give <= 99; give++) {
            isDue("give " + give, behind("kind g 50 " + give + ";row a;", "air 0 40 0;", 1),
                    4000 - 2 * give, 0);
        }
        for (int sky = 0; sky <= 100; sky++) {
            isDue("sky " + sky, behind("kind g 1 1;row a;" + skyOf(sky), "air 0 10 0;", 1),
                    1000 - sky, 0);
        }
        // The most of all: it goes far below 0, and water comes by what it lacks.
        isDue("the most", behind("kind g 1 99;row a;", "air 0 0 40;", 1), -9900, 13900 / 50 + 1);
    }

    /** "all from the WARMTH of the STEP ahead" */
    private static void fromTheStepAhead() {
        // STEP 0: 1000 less 77; STEP 1: 923, and 77 by 19, and 264 by 9, less 77.
        String ground = "kind g 9 21;row a;" + skyOf(33);
        isDue("STEP 0", behind(ground, "air 0 10 0;sun 1;", 1), 923, 0);
        isDue("STEP 1", behind(ground, "air 0 10 0;sun 1;", 2), 923 + 4 + 29 - 77, 0);
        isDue("STEP 1, in wind", behind(ground, "air 0 10 0;sun 1;wind 1 9;", 2), 923 + 40
                + 29 - 77, 0);
    }

    /** "as the latest LINE with T of this STEP or an earlier one tells" */
    private static void lineOfThisStep() {
        for (int t = 0; t < 144; t++) {
            SixDew d = Check.with(FLAT, "air " + t + " 10 11;");
            Check.due("begins by a line of " + t, d.begins(0, 0, 0), t);
            d = Check.with("kind f 8 0;row a;" + skyOf(50), "air 0 10 0;sun " + t + ";");
            Check.due("begin", d.begin(0), true);
            Check.due("on", d.on(t), t);
            Check.due("WARMTH ahead of the sun of " + t, Check.is(d, 0, 0, 0), 1000);
            Check.due("on", d.on(1), 1);
            Check.due("WARMTH behind the sun of " + t, Check.is(d, 0, 0, 0), 1050);
        }
    }

    /** "D above 0: water comes ON: .. D by 50, and 1"; D 0 is none */
    private static void lackAboveNothing() {
        for (int lack = 0; lack <= 100; lack++) {
            String ground = "kind g 10 10 gives 7;row a;" + skyOf(lack);
            int comes = lack == 0 ? 0 : 7 + lack / 50 + 1;
            isDue("D " + lack, behind(ground, "air 0 10 10;", 1), 1000 - lack, comes);
        }
        for (int line = 0; line <= 40; line++) {
            int comes = line <= 10 ? 0 : 2 * (line - 10) + 1;
            isDue("L " + line, behind(FLAT, "air 0 10 " + line + ";", 1), 1000, comes);
        }
    }

    /** "0, if V is 3 or more" */
    private static void windOfThree() {
        for (int wind = 0; wind <= 9; wind++) {
            String night = "air 0 10 12;wind 0 " + wind + ";";
            SixDew d = behind("kind f 10 0;row a;", night, 1);
            nowDue("wind " + wind, d, 1, wind < 3 ? 495 : 500, 0, wind < 3 ? 1 : 0, wind < 3 ? 5 : 0);
            // What the KIND gives comes in any wind.
            d = behind("kind f 10 0 gives 4;row a;", night, 1);
            nowDue("wind " + wind, d, 1, wind < 3 ? 495 : 500, 4, 1, wind < 3 ? 9 : 4);
        }
    }

    /** "but no more than STOCK, which it goes off" */
    private static void noMoreThanStock() {
        for (int stock = 0; stock <= 12; stock++) {
            SixDew d = behind(FLAT + "water " + stock + ";", "air 0 10 12;", 1);
            nowDue("STOCK " + stock, d, 1, Math.max(0, stock - 5), 0, stock > 0 ? 1 : 0,
                    Math.min(5, stock));
            Check.due("on", d.on(1), 1);
            nowDue("STOCK " + stock, d, 2, Math.max(0, stock - 10), 0, stock > 0 ? 1 : 0,
                    Math.min(10, stock));
        }
    }

    /** "and the KIND's own 'gives' comes, from no STOCK" */
    private static void giftFromNoStock() {
        for (int gift = 1; gift <= 9; gift++) {
            SixDew d = behind("kind w 10 0 gives " + gift + ";row aa;water 0;", WET, 144);
            nowDue("gift " + gift, d, 144, 0, 288 * gift, 2, 288 * gift);
            d = behind("kind w 10 0 gives " + gift + ";row a;water 4;", WET, 2);
            nowDue("gift " + gift, d, 2, 0, 2 * gift, 1, 2 * gift + 4);
            // D 0: none of it.
            d = behind("kind w 10 0 gives " + gift + ";row a;", "air 0 10 10;", 144);
            nowDue("gift " + gift, d, 144, 500, 0, 0, 0);
        }
    }

    /** "Else WATER dries OFF: .. but no more than there is" */
    private static void noMoreThanThereIs() {
        // 21 WATER behind STEP 0 by D 1000; then D -100 L.
        for (int line = 0; line <= 10; line++) {
            int dries = 100 * (10 - line) / 40 + 1;
            SixDew d = behind(FLAT + "water 21;", "air 0 10 20;air 1 10 " + line + ";", 2);
            nowDue("L " + line, d, 2, Math.min(21, dries), 0, dries < 21 ? 1 : 0, Math.max(0,
                    21 - dries));
            Check.due("on", d.on(1), 1);
            nowDue("L " + line, d, 3, Math.min(21, 2 * dries), 0, 2 * dries < 21 ? 1 : 0,
                    Math.max(0, 21 - 2 * dries));
        }
        // Just all that there is: 3 by D -100; and a dry CELL stays dry.
        SixDew d = behind(FLAT + "water 3;", "air 0 10 11;air 1 10 9;", 2);
        nowDue("just all", d, 2, 3, 0, 0, 0);
        Check.due("on", d.on(142), 142);
        nowDue("dry", d, 144, 3, 0, 0, 0);
    }

    /** "(V and 1 more) times (-D by 40, and 1)" */
    private static void driesByWind() {
        // 29 behind STEP 0: 20 come, 9 are given; at STEP 1 the SUN makes D -1 for each SKY.
        for (int sky : new int[] {0, 1, 39, 40, 41, 79, 80, 100}) {
            for (int wind = 0; wind <= 9; wind++) {
                String ground = "kind w 8 0 gives 9;row a;water 20;" + skyOf(sky);
                String night = "air 0 10 20;air 1 10 10;sun 1;wind 1 " + wind + ";";
                int dries = Math.min(29, (wind + 1) * (sky / 40 + 1));
                isDue("SKY " + sky + " wind " + wind, behind(ground, night, 2), 1000 + sky, 29 - dries);
            }
        }
    }

    /** "it comes to STOCK" */
    private static void driedComesToStock() {
        SixDew d = behind(FLAT + "water 999;", "air 0 10 40;air 9 10 0;", 9);
        nowDue("wet", d, 9, 999 - 9 * 61, 0, 1, 9 * 61);
        for (int t = 1; t <= 22; t++) {
            Check.due("on", d.on(1), 1);
            int left = Math.max(0, 9 * 61 - 26 * t);
            nowDue("drying", d, 9 + t, 999 - left, 0, left > 0 ? 1 : 0, left);
        }
        // What was given, too: STOCK may have more than was told.
        d = behind("kind w 10 0 gives 9;row a;water 999;", "wind 0 3;air 0 10 11;air 100 10 0;", 144);
        nowDue("given and dried", d, 144, 999 + 900, 900, 0, 0);
    }

    /** "Then CELL by CELL": what one takes or leaves the next one finds in the same STEP */
    private static void cellByCell() {
        for (int stock = 0; stock <= 12; stock++) {
            SixDew d = behind("kind f 10 0;row aa;row aa;water " + stock + ";", WET, 1);
            for (int c = 0; c < 4; c++) {
                Check.due("CELL " + c + " of STOCK " + stock, Check.is(d, c % 2, c / 2, 1),
                        Math.max(0, Math.min(3, stock - 3 * c)));
            }
        }
    }

    /** "A RUN of a SLOT begins, ahead of STEP 0: true; false: no such one, or it is empty" */
    private static void beginsAnew() {
        SixDew d = new SixDew();
        for (int slot = -1; slot <= 6; slot++) {
            Check.due("begin of an empty SLOT", d.begin(slot), false);
        }
        Check.ground(d, FLAT);
        for (int slot = 0; slot < 6; slot++) {
            Check.night(d, slot, "air 0 " + slot + " 40;");
        }
        for (int slot = 0; slot < 6; slot++) {
            Check.due("begin", d.begin(slot), true);
            nowDue("begun", d, 0, 500, 0, 0, 0);
            isDue("begun", d, 100 * slot, 0);
            Check.due("on", d.on(144), 144);
            for (int none : new int[] {-1, 6, Integer.MAX_VALUE, Integer.MIN_VALUE}) {
                Check.due("begin(" + none + ")", d.begin(none), false);
                Check.due("now(0) behind it", d.now(0), 144);
            }
        }
        // What was given, wiped and covered in the RUN ahead is so no more.
        d = behind("kind w 10 10 gives 3;row aa;water 20;", WET, 9);
        Check.planDue(d, "cover 0 0;wipe 1 0;", 2);
        Check.due("go(1)", d.go(1), -1);
        Check.due("begin", d.begin(0), true);
        nowDue("begun anew", d, 0, 20, 0, 0, 0);
        Check.due("go(0) covers anew", d.go(0), 1);
        wentDue("it was dry, not covered", d, 2, 0, 0, 0, 1);
    }

    /** "It goes on by so many STEPS (0 to 144; 143 is the last one): how many were done" */
    private static void onBySoMany() {
        SixDew d = Check.with(FLAT, "");
        for (int ahead = 0; ahead <= 144; ahead += 16) {
            for (int steps : new int[] {0, 1, 15, 16, 127, 128, 143, 144}) {
                Check.due("begin", d.begin(0), true);
                Check.due("on", d.on(ahead), ahead);
                int does = Math.min(steps, 144 - ahead);
                Check.due("on(" + steps + ") behind " + ahead, d.on(steps), does);
                Check.due("now(0)", d.now(0), ahead + does);
            }
        }
        for (int t = 0; t < 144; t++) {
            d = behind(FLAT, "", t);
            Check.due("on(144) behind " + t, d.on(144), 144 - t);
        }
    }

    /** "NONE: not as told, no RUN" */
    private static void onNotAsTold() {
        SixDew d = Check.with(FLAT, WET);
        for (int steps : new int[] {0, 1, 144}) {
            Check.due("on without a RUN", d.on(steps), -1);
        }
        Check.due("begin", d.begin(0), true);
        for (int steps : new int[] {-1, 145, 146, Integer.MAX_VALUE, Integer.MIN_VALUE}) {
            Check.due("on(" + steps + ")", d.on(steps), -1);
            nowDue("behind it", d, 0, 500, 0, 0, 0);
        }
        Check.due("on", d.on(144), 144);
        Check.due("on(145) at the end", d.on(145), -1);
        Check.due("on(0) at the end", d.on(0), 0);
    }

    /** "Of a CELL now: 0 WARMTH, 1 WATER. NoSuchElementException: no such ones, no RUN" */
    private static void isOfNone() {
        SixDew d = Check.with("kind f 10 0;row aaa;row aaa;", WET);
        Check.due("is without a RUN", Check.is(d, 0, 0, 0), Check.THROWS);
        Check.due("begin", d.begin(0), true);
        Check.due("on", d.on(1), 1);
        for (int x = -1; x <= 3; x++) {
            for (int y = -1; y <= 2; y++) {
                for (int what = -1; what <= 2; what++) {
                    boolean there = x >= 0 && x < 3 && y >= 0 && y < 2 && what >= 0 && what < 2;
                    Check.due("is(" + x + ", " + y + ", " + what + ")", Check.is(d, x, y, what),
                            there ? what == 0 ? 1000 : 3 : Check.THROWS);
                }
            }
        }
        for (int far : new int[] {Integer.MAX_VALUE, Integer.MIN_VALUE}) {
            Check.due("is of none", Check.is(d, far, 0, 0), Check.THROWS);
            Check.due("is of none", Check.is(d, 0, far, 0), Check.THROWS);
            Check.due("is of none", Check.is(d, 0, 0, far), Check.THROWS);
        }
    }

    /** "Of the RUN now: .. NONE: another what, no RUN" */
    private static void nowOfNone() {
        SixDew d = Check.with(FLAT, WET);
        for (int what = -1; what <= 5; what++) {
            Check.due("now without a RUN", d.now(what), -1);
        }
        Check.due("begin", d.begin(0), true);
        for (int what : new int[] {-1, 5, 6, Integer.MAX_VALUE, Integer.MIN_VALUE}) {
            Check.due("now(" + what + ")", d.now(what), -1);
        }
    }

    /** "1 there are not so many STEPS left" */
    private static void planOn() {
        for (int ahead = 0; ahead <= 144; ahead++) {
            SixDew d = behind(FLAT, "", ahead);
            int left = 144 - ahead;
            if (left > 0) {
                Check.planDue(d, "on " + left + ";", 1);
                Check.due("go(0)", d.go(0), -1);
                wentDue("just so many left", d, 0, left, 0, 0, 0);
            }
            if (left < 144) {
                Check.planDue(d, "on " + (left + 1) + ";", 1);
                for (int does = 0; does <= 1; does++) {
                    Check.due("go(" + does + ")", d.go(does), 0);
                    wentDue("one more than left", d, 1, 0, 0, 0, 0);
                    Check.due("now(0)", d.now(0), ahead);
                }
            }
        }
    }

    /** "wipe: the CELL's WATER is taken (it is nowhere then)"; "2 no WATER there" */
    private static void planWipe() {
        SixDew d = behind(FLAT, "air 0 10 11;air 2 10 10;", 0);
        Check.planDue(d, "wipe 0 0;", 1);
        Check.due("go(1)", d.go(1), 0);
        wentDue("dry", d, 2, 0, 0, 0, 0);
        Check.due("on", d.on(1), 1);
        Check.due("go(1)", d.go(1), -1);
        wentDue("wet", d, 0, 0, 3, 0, 0);
        nowDue("it is nowhere", d, 1, 497, 0, 0, 0);
        Check.due("go(1)", d.go(1), 0);
        wentDue("wiped already", d, 2, 0, 0, 0, 0);
        Check.due("on", d.on(1), 1);
        nowDue("water comes on again", d, 2, 494, 0, 1, 3);
        // 1 left of 3: it is some; and none of it.
        Check.due("on", d.on(2), 2);
        Check.due("go(1)", d.go(1), -1);
        wentDue("one", d, 0, 0, 1, 0, 0);
        Check.due("on", d.on(1), 1);
        Check.due("go(1)", d.go(1), 0);
        wentDue("none", d, 2, 0, 0, 0, 0);
    }

    /** "cover: its SKY is 0 from then on; bare: as told again"; "3 it is covered (bare) already" */
    private static void planCover() {
        String ground = "kind g 10 10;row a;" + skyOf(60);
        SixDew d = behind(ground, "air 0 10 0;", 1);
        isDue("bare", d, 940, 0);
        Check.planDue(d, "bare 0 0;", 1);
        Check.due("bare already", d.go(1), 0);
        wentDue("bare already", d, 3, 0, 0, 0, 0);
        Check.planDue(d, "cover 0 0;", 1);
        Check.due("cover", d.go(1), -1);
        wentDue("cover", d, 0, 0, 0, 0, 1);
        Check.due("covered already", d.go(1), 0);
        wentDue("covered already", d, 3, 0, 0, 0, 1);
        Check.due("on", d.on(1), 1);
        isDue("covered", d, 943, 0);
        Check.planDue(d, "bare 0 0;", 1);
        Check.due("bare again", d.go(1), -1);
        wentDue("bare again", d, 0, 0, 0, 0, 0);
        Check.due("on", d.on(1), 1);
        isDue("as told again", d, 943 + 2 - 60, 0);
        // A CELL whose SKY is 0 as told is bare, not covered.
        d = behind("kind g 10 10;row a;" + skyOf(0), "", 0);
        Check.planDue(d, "bare 0 0;", 1);
        Check.due("bare already", d.go(1), 0);
        Check.planDue(d, "cover 0 0;bare 0 0;", 2);
        Check.due("covered and bare", d.go(1), -1);
    }

    /** "'wipe' X Y | 'cover' X Y | 'bare' X Y": each CELL by its column and its row */
    private static void planEachCell() {
        for (int y = 0; y < 3; y++) {
            for (int x = 0; x < 2; x++) {
                SixDew d = behind("kind g 10 10;row aa;row aa;row aa;water 999;", "air 0 10 10;", 1);
                String cell = " " + x + " " + y + ";";
                Check.planDue(d, "wipe" + cell + "cover" + cell + "on 1;", 3);
                Check.due("go(1)", d.go(1), -1);
                for (int c = 0; c < 6; c++) {
                    boolean it = c == 2 * y + x;
                    // By STEP 1: 900 and 5, less 100 but for the covered one: D 95 or 195.
                    Check.due("WARMTH", Check.is(d, c % 2, c / 2, 0), it ? 905 : 805);
                    Check.due("WATER", Check.is(d, c % 2, c / 2, 1), it ? 2 : 7);
                }
                Check.planDue(d, "bare" + cell + "on 1;", 2);
                Check.due("go(1)", d.go(1), -1);
                for (int c = 0; c < 6; c++) {
                    Check.due("WARMTH", Check.is(d, c % 2, c / 2, 0), c == 2 * y + x ? 809 : 714);
                }
            }
        }
    }

    /** "The first LINE that is WRONG ends it" */
    private static void firstWrongLine() {
        for (int at = 0; at < 30; at++) {
            SixDew d = behind(FLAT, "", 0);
            Check.planDue(d, "on 1;".repeat(at) + "wipe 0 0;" + "on 1;".repeat(29 - at), 30);
            Check.due("go(0)", d.go(0), at);
            wentDue("WRONG at " + at, d, 2, at, 0, 0, 0);
            Check.due("go(1)", d.go(1), at);
            Check.due("now(0)", d.now(0), at);
        }
        SixDew d = behind(FLAT, "", 0);
        Check.planDue(d, "on 1;".repeat(30), 30);
        Check.due("go(1)", d.go(1), -1);
        wentDue("none WRONG", d, 0, 30, 0, 0, 0);
        // Of two the first; what is behind it is not done.
        Check.planDue(d, "cover 0 0;cover 0 0;wipe 0 0;on 9;", 4);
        Check.due("go(1)", d.go(1), 1);
        wentDue("two WRONG", d, 3, 0, 0, 0, 1);
        Check.due("now(0)", d.now(0), 30);
    }

    /** "{ LINE ; }" of no LINE: nothing is done, and no LINE is WRONG */
    private static void emptyPlan() {
        SixDew d = behind("kind f 10 0;row aaa;", WET, 144);
        for (int does = 0; does <= 1; does++) {
            Check.due("go(" + does + ")", d.go(does), -1);
            wentDue("no LINE", d, 0, 0, 0, 3, 0);
        }
        // Behind a PLAN that was WRONG nothing is.
        Check.planDue(d, "bare 0 0;", 1);
        Check.due("go(0)", d.go(0), 0);
        wentDue("WRONG", d, 3, 0, 0, 3, 0);
        Check.due("plan()", d.plan(), 0);
        Check.due("go(0)", d.go(0), -1);
        wentDue("no LINE behind a WRONG one", d, 0, 0, 0, 3, 0);
        d = new SixDew();
        Check.due("night()", d.night(0), 0);
        Check.due("begin", d.begin(0), true);
        Check.due("go(1) on an empty GROUND", d.go(1), -1);
        wentDue("an empty GROUND", d, 0, 0, 0, 0, 0);
    }

    /** "-2: no RUN, another does"; "Of the latest go() that was not -2" */
    private static void goNotAsTold() {
        SixDew d = Check.with(FLAT, WET);
        Check.planDue(d, "on 2;", 1);
        for (int does = -1; does <= 2; does++) {
            Check.due("go without a RUN", d.go(does), -2);
            Check.due("went ahead of any", d.went(0), -1);
        }
        Check.due("begin", d.begin(0), true);
        Check.due("go(1)", d.go(1), -1);
        String ahead = Check.seen(d);
        for (int does : new int[] {-2, -1, 2, 3, Integer.MAX_VALUE, Integer.MIN_VALUE}) {
            Check.due("go(" + does + ")", d.go(does), -2);
        }
        Check.same("all is as it was", Check.seen(d), ahead);
    }

    /** "the RUN staying as it is (does 0), or being gone on with (1; up to its first WRONG LINE)" */
    private static void goStaysOrGoesOn() {
        SixDew d = behind("kind g 10 10 gives 1;row aa;water 30;", "air 0 10 11;", 3);
        Check.planDue(d, "cover 1 0;on 4;wipe 0 0;wipe 0 0;on 1;", 5);
        Check.due("go(0)", d.go(0), 3);
        String ahead = Check.seen(d);
        Check.due("go(0) again", d.go(0), 3);
        Check.same("the RUN stays as it is", Check.seen(d), ahead);
        Check.due("now(0)", d.now(0), 3);
        int taken = d.went(2);
        Check.due("go(1)", d.go(1), 3);
        Check.due("taken", d.went(2), taken);
        Check.due("now(0)", d.now(0), 7);
        Check.due("WATER", Check.is(d, 0, 0, 1), 0);
        // It is covered now, so that the PLAN is WRONG at once.
        Check.due("go(1)", d.go(1), 0);
    }

    /** "0 why it was WRONG (0: it was not), .. NONE: another what, or ahead of any" */
    private static void wentOfTheLatest() {
        SixDew d = Check.with("kind f 10 0;row aaa;", WET);
        for (int what = -1; what <= 5; what++) {
            Check.due("went ahead of any", d.went(what), -1);
        }
        Check.due("begin", d.begin(0), true);
        for (int what = -1; what <= 5; what++) {
            Check.due("went ahead of any", d.went(what), -1);
        }
        Check.planDue(d, "on 2;cover 0 0;wipe 0 0;wipe 1 0;on 1;wipe 2 0;cover 2 0;on 142;", 8);
        Check.due("go(1)", d.go(1), 7);
        wentDue("WRONG", d, 1, 3, 21, 2, 2);
        Check.due("bare", Check.plan(d, "bare 0 0;"), 1);
        Check.due("go(0)", d.go(0), -1);
        wentDue("the latest alone", d, 0, 0, 0, 2, 1);
        for (int what : new int[] {-1, 5, Integer.MAX_VALUE, Integer.MIN_VALUE}) {
            Check.due("went(" + what + ")", d.went(what), -1);
        }
        // Another RUN, PLAN or GROUND leaves it as it is.
        Check.due("begin", d.begin(0), true);
        Check.due("plan()", d.plan(), 0);
        wentDue("another RUN", d, 0, 0, 0, 2, 1);
        Check.due("ground()", d.ground(), 0);
        wentDue("another GROUND", d, 0, 0, 0, 2, 1);
    }
}
