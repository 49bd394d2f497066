/**
 * The edges that the document names for what is asked of a RUN of a SLOT (promises 16 to 27),
 * sentence by sentence: each method holds one, told ahead of it in the document's words.
 */
public final class EdgesOfQuestionsTest {
    /** Of KIND a CELLS stay dry; of b, c, d they have 1, 2, 5 more behind each STEP that is wet. */
    private static final String GIFTS = "kind m 10 0;kind n 10 0 gives 1;kind o 10 0 gives 2;"
            + "kind p 10 0 gives 5;water 0;";
    private static final String FLAT = "kind f 10 0;row a;";
    private static final String WET = "air 0 10 11;";
    private static final int[] FAR = {Integer.MAX_VALUE, Integer.MIN_VALUE};

    private EdgesOfQuestionsTest() {
    }

    public static void main(String[] args) {
        noSuchCellOrSlot();
        emptyGround();
        stepsOfMuch();
        asMuchOrMore();
        leastOfWhere();
        mostWater();
        begins();
        gone();
        wet();
        spell();
        spellsInTwo();
        sick();
        frost();
        slugsNeighbours();
        slugsOfAll();
        slugsDry();
        walkBothEnds();
        walkOfNone();
        walkAround();
        unlike();
        benchByEach();
        benchFirst();
        benchToSix();
        Check.finish("EdgesOfQuestionsTest");
    }

    private static final String[] OF_A_CELL = {"begins", "gone", "wet", "spell", "frost", "roof",
        "catcher"};

    /** Every call with a CELL and a SLOT, of others than those that there are. */
    private static void noneDue(SixDew d, int slot, int x, int y) {
        String at = "(" + slot + ", " + x + ", " + y + ")";
        for (String call : OF_A_CELL) {
            Check.due(call + at, Faces.call(d, call, slot, x, y), -1);
        }
        Check.due("much" + at, d.much(slot, x, y, 5), -1);
        Check.due("slugs" + at, d.slugs(slot, 5, x, y), -1);
        Check.due("came" + at, d.came(slot, x, y, 0), -1);
        Check.due("story" + at, d.story(slot, x, y, 5, 0), -1);
        Check.due("part" + at, d.part(slot, x, y, 0, 2), -1);
        Check.due("drawn" + at, d.drawn(slot, x, y, 1, 1), -1);
    }

    /** "NONE, too: no such CELL"; "NONE: no such ones, an empty SLOT (here and below)" */
    private static void noSuchCellOrSlot() {
        String ground = GIFTS + "row bbb;row bbb;";
        String night = "air 0 0 11;air 1 10 11;air 5 10 0;";
        for (int[] none : new int[][] {{-1, 0}, {3, 0}, {0, -1}, {0, 2}, {2, 2}, {3, 1}, {6, 0},
            {FAR[0], 0}, {FAR[1], 0}, {0, FAR[0]}, {0, FAR[1]}}) {
            noneDue(Check.with(ground, night), 0, none[0], none[1]);
        }
        for (int slot : new int[] {-1, 1, 5, 6, FAR[0], FAR[1]}) {
            SixDew d = Check.with(ground, night);
            noneDue(d, slot, 0, 0);
            Check.due("where", d.where(slot, 5, 1), -1);
            Check.due("sick", d.sick(slot, 1), -1);
            Check.due("walk", d.walk(slot, 5, 0, 0), -1);
            Check.due("unlike", d.unlike(slot, 0), -1);
            Check.due("unlike", d.unlike(0, slot), -1);
            Check.due("bench", d.bench(slot, 100), -1);
            Check.due("driest", d.driest(slot, 1), -1);
            Check.due("hay", d.hay(slot, 9999), -1);
            Check.due("sky", d.sky(slot, 0, 0), -1);
            Check.due("clouded", d.clouded(slot), -1);
            Check.due("tries", d.tries(slot, 0), -1);
        }
        // The CELLS at the corners are there.
        SixDew d = Check.with(ground, night);
        for (int x = 0; x <= 2; x += 2) {
            for (int y = 0; y <= 1; y++) {
                Check.due("much", d.much(0, x, y, 1), 2);
                Check.due("begins", d.begins(0, x, y), 0);
            }
        }
    }

    /** "An empty GROUND" has no CELL; a NIGHT may come over it all the same */
    private static void emptyGround() {
        for (String ground : new String[] {"", "kind g 10 20;water 7;"}) {
            SixDew d = Check.with(ground, WET);
            noneDue(d, 0, 0, 0);
            Check.due("where", d.where(0, 143, 1), 0);
            Check.due("sick", d.sick(0, 1), 0);
            Check.due("walk", d.walk(0, 0, 0, 0), -1);
            Check.due("unlike", d.unlike(0, 0), -1);
            Check.due("bench", d.bench(0, 100), -1);
            Check.due("driest", d.driest(0, 1), -1);
            Check.due("hay", d.hay(0, 0), 72);
            Check.due("hay -1", d.hay(0, -1), -1);
            Check.due("hay 10000", d.hay(0, 10000), -1);
            Check.due("where 0", d.where(0, 143, 0), -1);
            Check.due("sick 0", d.sick(0, 0), -1);
            Check.due("lawn of a byte", lawnOfAByte(d), -1);
            Check.due("lawn", d.lawn(), 1);
            Check.due("clouded", d.clouded(0), 4095);
        }
    }

    private static int lawnOfAByte(SixDew d) {
        Check.tape(d, 2);
        return d.lawn();
    }

    /** "WATER of a CELL behind STEP t": STEPS 0 to 143 */
    private static void stepsOfMuch() {
        SixDew d = Check.with(GIFTS + "row bd;", WET);
        for (int t = -2; t <= 146; t++) {
            boolean told = t >= 0 && t <= 143;
            Check.due("much behind " + t, d.much(0, 0, 0, t), told ? t + 1 : -1);
        }
        d = Check.with(GIFTS + "row bd;", WET);
        for (int t : new int[] {-1, 144, 145, FAR[0], FAR[1]}) {
            Check.due("much behind " + t, d.much(0, 0, 0, t), -1);
            Check.due("where behind " + t, d.where(0, t, 1), -1);
            Check.due("slugs behind " + t, d.slugs(0, t, 0, 0), -1);
            Check.due("walk behind " + t, d.walk(0, t, 0, 1), -1);
            Check.due("story behind " + t, d.story(0, 0, 0, t, 0), -1);
            Check.tape(d, 0, 0);
            Check.due("tries behind " + t, d.tries(0, t), -1);
        }
        for (int t : new int[] {0, 143}) {
            Check.due("where behind " + t, d.where(0, t, t + 2), 1);
            Check.due("slugs behind " + t, d.slugs(0, t, 0, 0), 2);
            Check.due("walk behind " + t, d.walk(0, t, 0, 1), 6 * (t + 1));
            Check.due("story behind " + t, d.story(0, 1, 0, t, 0), 5 * (t + 1));
        }
    }

    /** "CELLS with as much WATER or more (1 to 9999) behind STEP t" */
    private static void asMuchOrMore() {
        SixDew d = Check.with(GIFTS + "row abcd;row abcd;", WET);
        int[] due = {-1, 6, 4, 2, 2, 2, 0, 0};
        for (int least = 0; least < due.length; least++) {
            Check.due("where " + least, d.where(0, 0, least), due[least]);
        }
    }

    /** "(1 to 9999)"; "NONE, too: not as told" */
    private static void leastOfWhere() {
        SixDew d = Check.with(GIFTS + "row abcd;", WET);
        for (int least : new int[] {-1, 0, 10000, 10001, FAR[0], FAR[1]}) {
            Check.due("where " + least, d.where(0, 143, least), -1);
        }
        Check.due("where 1", d.where(0, 143, 1), 3);
        Check.due("where 9999", d.where(0, 143, 9999), 0);
    }

    /** "(1 to 9999)" of where, "(0 to 9999)" of hay, where a CELL has just so much, or more */
    private static void mostWater() {
        // 9 are given to 20 CELLS in 50 STEPS of wind; then all dries, and the cold CELL has it.
        for (int stock = 998; stock <= 999; stock++) {
            SixDew d = hoard(stock, 50);
            Check.due("where 9998", d.where(0, 143, 9998), 1);
            Check.due("where 9999", d.where(0, 143, 9999), stock == 999 ? 1 : 0);
            Check.due("hay 9999", d.hay(0, 9999), 72);
            Check.due("hay 9998", d.hay(0, 9998), stock == 999 ? -1 : 72);
        }
        SixDew d = hoard(820, 51);
        Check.due("much", d.much(0, 0, 2, 143), 10000);
        Check.due("where 9999", d.where(0, 143, 9999), 1);
        Check.due("where 10000", d.where(0, 143, 10000), -1);
        Check.due("hay 9999", d.hay(0, 9999), -1);
        Check.due("hay 10000", d.hay(0, 10000), -1);
    }

    private static SixDew hoard(int stock, int steps) {
        String dries = "wind " + steps + " 0;air " + steps + " 10 0;";
        return Check.with("kind w 10 0 gives 9;kind f 10 0;kind c 1 99;row aaaaaaaaaa;row aaaaaaaaaa;"
                + "row cbbbbbbbbb;water " + stock + ";", "wind 0 9;air 0 10 11;" + dries);
    }

    /** "BEGINS: the first STEP behind which there is WATER"; "never" */
    private static void begins() {
        Check.due("begins, never", Check.with(FLAT, "").begins(0, 0, 0), -1);
        Check.due("begins, no STOCK", Check.with(FLAT + "water 0;", WET).begins(0, 0, 0), -1);
        Check.due("begins, windy", Check.with(FLAT, "wind 0 3;" + WET).begins(0, 0, 0), -1);
        for (int t = 0; t < 144; t++) {
            String night = "air " + t + " 10 11;" + (t < 143 ? "air " + (t + 1) + " 10 0;" : "");
            SixDew d = Check.with(FLAT, night);
            Check.due("begins at " + t, d.begins(0, 0, 0), t);
            Check.due("gone at " + t, d.gone(0, 0, 0), t < 143 ? t + 1 : -1);
            Check.due("wet at " + t, d.wet(0, 0, 0), 1);
            Check.due("spell at " + t, d.spell(0, 0, 0), 1);
        }
    }

    /** "GONE: the first STEP behind the last one ..": "there never is any, or some behind STEP 143" */
    private static void gone() {
        Check.due("gone, never any", Check.with(FLAT, "").gone(0, 0, 0), -1);
        Check.due("gone, some always", Check.with(FLAT, WET).gone(0, 0, 0), -1);
        Check.due("gone, some behind 143", Check.with(FLAT, "air 0 10 11;air 1 10 0;air 143 10 11;")
                .gone(0, 0, 0), -1);
        Check.due("gone behind 142", Check.with(FLAT, "air 0 10 11;air 1 10 0;air 142 10 11;"
                + "air 143 10 0;").gone(0, 0, 0), 143);
        Check.due("gone twice", Check.with(FLAT, "air 0 10 11;air 1 10 0;air 7 10 11;air 9 10 0;")
                .gone(0, 0, 0), 9);
    }

    /** "How many STEPS there are behind which there is WATER" */
    private static void wet() {
        Check.due("wet, never", Check.with(FLAT, "").wet(0, 0, 0), 0);
        for (int from = 0; from < 144; from += 11) {
            Check.due("wet from " + from, Check.with(FLAT, "air " + from + " 10 11;").wet(0, 0, 0),
                    144 - from);
            Check.due("spell from " + from, Check.with(FLAT, "air " + from + " 10 11;")
                    .spell(0, 0, 0), 144 - from);
        }
    }

    /** "SPELL of a CELL: the most STEPS one behind the other behind which there is WATER" */
    private static void spell() {
        Check.due("spell, never", Check.with(FLAT, "").spell(0, 0, 0), 0);
        SixDew d = Check.with(FLAT, WET);
        for (int i = 0; i < 3; i++) {
            Check.due("spell, always", d.spell(0, 0, 0), 144);
        }
    }

    /** "the most": ahead of a dry STEP or behind it, up to the last STEP */
    private static void spellsInTwo() {
        for (int dry = 1; dry < 143; dry++) {
            // One WATER more a STEP, and at STEP dry all of it dries: -D 4000, V 9.
            SixDew d = Check.with("kind n 10 0 gives 1;row a;water 0;", "air 0 10 11;air " + dry
                    + " 10 0;wind " + dry + " 9;air " + (dry + 1) + " 10 11;wind " + (dry + 1) + " 0;");
            Check.due("dry behind " + dry, d.much(0, 0, 0, dry), 0);
            Check.due("spell by a dry " + dry, d.spell(0, 0, 0), Math.max(dry, 143 - dry));
            Check.due("wet by a dry " + dry, d.wet(0, 0, 0), 143);
        }
    }

    /** "CELLS with a SPELL of n (1 to 144) STEPS or more"; "not as told" */
    private static void sick() {
        SixDew d = Check.with(GIFTS + "row abcd;", "air 0 10 11;air 1 10 10;");
        int[] due = {-1, 3, 2, 1, 1, 1, 0};
        for (int n = 0; n < due.length; n++) {
            Check.due("sick " + n, d.sick(0, n), due[n]);
        }
        for (int n : new int[] {-1, 0, 145, 146, FAR[0], FAR[1]}) {
            Check.due("sick " + n, d.sick(0, n), -1);
        }
        Check.due("sick 144", d.sick(0, 144), 0);
        Check.due("sick 144", Check.with(GIFTS + "row abcd;", WET).sick(0, 144), 3);
        // Be it the first CELL alone, or the last one.
        Check.due("sick 144", Check.with(GIFTS + "row baaa;", WET).sick(0, 144), 1);
        Check.due("sick 144", Check.with(GIFTS + "row aaab;", WET).sick(0, 144), 1);
        d = Check.with(GIFTS + "row abcd;", "air 1 10 11;");
        Check.due("sick 144", d.sick(0, 144), 0);
        Check.due("sick 143", d.sick(0, 143), 3);
    }

    /** "FROST: the first STEP behind which there is WATER and WARMTH below 0"; "never" */
    private static void frost() {
        // WARMTH 100 A of 0 less the SKY: 0 is not below, -1 is.
        Check.due("frost at 0", Check.with("kind g 10 10;row a;shade 0 0 0 100;", "air 0 0 1;")
                .frost(0, 0, 0), -1);
        Check.due("frost at -1", Check.with("kind g 10 10;row a;shade 0 0 0 99;", "air 0 0 1;")
                .frost(0, 0, 0), 0);
        // Cold and dry is none, warm and wet is none.
        Check.due("frost, dry", Check.with("kind g 10 10;row a;water 0;", "air 0 0 1;")
                .frost(0, 0, 0), -1);
        Check.due("frost, warm", Check.with(FLAT, "air 0 1 40;").frost(0, 0, 0), -1);
        for (int t = 0; t < 144; t++) {
            // It is cold from STEP 0 on; WATER comes when the wind ceases.
            String night = "air 0 0 1;wind 0 3;" + "wind " + t + " 2;";
            Check.due("frost at " + t, Check.with("kind g 10 1;row a;", night).frost(0, 0, 0), t);
        }
    }

    /** "each to the north, east, south or west of another" */
    private static void slugsNeighbours() {
        for (int y = 0; y < 3; y++) {
            for (int x = 0; x < 3; x++) {
                // The middle CELL is wet, and one more.
                StringBuilder rows = new StringBuilder(GIFTS);
                for (int row = 0; row < 3; row++) {
                    rows.append("row ");
                    for (int column = 0; column < 3; column++) {
                        boolean isWet = row == 1 && column == 1 || row == y && column == x;
                        rows.append(isWet ? 'b' : 'a');
                    }
                    rows.append(';');
                }
                SixDew d = Check.with(rows.toString(), WET);
                int away = Math.abs(x - 1) + Math.abs(y - 1);
                Check.due("slugs with " + x + " " + y, d.slugs(0, 0, 1, 1), away == 1 ? 2 : 1);
                Check.due("slugs of " + x + " " + y, d.slugs(0, 0, x, y), away == 1 ? 2 : 1);
            }
        }
        // One column, and one row.
        SixDew line = Check.with(GIFTS + "row b;row b;row a;row b;row b;row b;", WET);
        int[] column = {2, 2, 0, 3, 3, 3};
        for (int y = 0; y < 6; y++) {
            Check.due("slugs in one column", line.slugs(0, 0, 0, y), column[y]);
            Check.due("walk in one column", line.walk(0, 0, 0, y), y < 2 ? y + 1 : Math.max(2, y));
        }
        line = Check.with(GIFTS + "row bbabbb;", WET);
        for (int x = 0; x < 6; x++) {
            Check.due("slugs in one row", line.slugs(0, 0, x, 0), column[x]);
            Check.due("walk in one row", line.walk(0, 0, 0, x), x < 2 ? x + 1 : Math.max(2, x));
        }
        // The end of a row is no neighbour of the next row's first CELL.
        SixDew d = Check.with(GIFTS + "row aab;row baa;", WET);
        Check.due("slugs at a row's end", d.slugs(0, 0, 2, 0), 1);
        Check.due("slugs at a row's first", d.slugs(0, 0, 0, 1), 1);
    }

    /** "wet CELLS that one comes to from a wet one by wet ones": all of them, be it by a long way */
    private static void slugsOfAll() {
        SixDew d = Check.with(GIFTS + "row bbbbbbbbbbbb;".repeat(12), WET);
        for (int at = 0; at < 12; at++) {
            Check.due("slugs of all", d.slugs(0, 143, at, 11 - at), 144);
        }
        // One way to and fro through twelve rows: 6 whole rows, 5 links, and the last row's one.
        StringBuilder rows = new StringBuilder(GIFTS);
        for (int y = 0; y < 12; y++) {
            rows.append(y % 2 == 0 ? "row bbbbbbbbbbbb;" : y % 4 == 1 ? "row aaaaaaaaaaab;"
                    : "row baaaaaaaaaaa;");
        }
        d = Check.with(rows.toString(), WET);
        Check.due("slugs to and fro", d.slugs(0, 0, 0, 0), 78);
        Check.due("slugs to and fro", d.slugs(0, 0, 0, 11), 78);
        Check.due("slugs of a dry one", d.slugs(0, 0, 0, 1), 0);
    }

    /** "how many CELLS (0: it is dry)" */
    private static void slugsDry() {
        SixDew d = Check.with(GIFTS + "row bab;", "air 0 10 11;air 1 10 10;");
        int[] due = {1, 0, 1};
        for (int x = 0; x < 3; x++) {
            Check.due("slugs behind 0", d.slugs(0, 0, x, 0), due[x]);
            Check.due("slugs behind 1", d.slugs(0, 1, x, 0), 0);
        }
    }

    /** "added over all CELLS trodden (both ends, too)" */
    private static void walkBothEnds() {
        SixDew d = Check.with(GIFTS + "row dbc;", WET);
        int[][] due = {{5, 6, 8}, {6, 1, 3}, {8, 3, 2}};
        for (int from = 0; from < 3; from++) {
            for (int to = 0; to < 3; to++) {
                Check.due("walk " + from + " " + to, d.walk(0, 0, from, to), due[from][to]);
            }
        }
        // "wet or dry": over dry CELLS it is 0.
        d = Check.with(GIFTS + "row aaaa;row aaaa;", WET);
        Check.due("walk over dry ones", d.walk(0, 143, 0, 7), 0);
    }

    /** "from a CELL to another (by their numbers) .. NONE, too: no such ones" */
    private static void walkOfNone() {
        SixDew d = Check.with(GIFTS + "row bbb;row bbb;", WET);
        for (int from = -2; from <= 8; from++) {
            for (int to = -2; to <= 8; to++) {
                boolean there = from >= 0 && from < 6 && to >= 0 && to < 6;
                int steps = Math.abs(from / 3 - to / 3) + Math.abs(from % 3 - to % 3) + 1;
                Check.due("walk " + from + " " + to, d.walk(0, 0, from, to), there ? steps : -1);
            }
        }
        for (int far : FAR) {
            Check.due("walk of none", d.walk(0, 0, far, 0), -1);
            Check.due("walk of none", d.walk(0, 0, 0, far), -1);
        }
    }

    /** "the least WATER": a long way round, not the shortest one; no way over a row's end */
    private static void walkAround() {
        StringBuilder rows = new StringBuilder(GIFTS);
        for (int y = 0; y < 12; y++) {
            rows.append(y % 2 == 0 ? "row aaaaaaaaaaaa;" : y % 4 == 1 ? "row ddddddddddda;"
                    : "row addddddddddd;");
        }
        SixDew d = Check.with(rows.toString(), WET);
        Check.due("walk to and fro", d.walk(0, 143, 0, 120), 0);
        Check.due("walk to the last", d.walk(0, 0, 0, 143), 5);
        Check.due("walk to the last row's first", d.walk(0, 0, 143, 132), 5);
        d = Check.with(GIFTS + "row dda;row add;", WET);
        Check.due("walk over a row's end", d.walk(0, 0, 2, 3), 10);
        // All wet, the most: 23 CELLS of 9 a STEP.
        d = Check.with("kind w 10 0 gives 9;" + "row aaaaaaaaaaaa;".repeat(12) + "water 0;", WET);
        Check.due("walk over wet ones", d.walk(0, 143, 0, 143), 23 * 9 * 144);
    }

    /** "The first STEP behind which some CELL's WATER in RUNS of two SLOTS is unlike; .. never" */
    private static void unlike() {
        for (int t = 0; t < 144; t++) {
            SixDew d = Check.with(GIFTS + "row aaab;", WET);
            Check.night(d, 5, WET + "air " + t + " 10 10;");
            Check.due("unlike from " + t, d.unlike(0, 5), t);
            Check.due("unlike from " + t, d.unlike(5, 0), t);
            Check.due("unlike itself", d.unlike(5, 5), -1);
        }
        // "some CELL's": each of them alone.
        for (int c = 0; c < 6; c++) {
            String row = "a".repeat(c) + "b" + "a".repeat(5 - c);
            SixDew d = Check.with(GIFTS + "row " + row.substring(0, 3) + ";row " + row.substring(3)
                    + ";", WET);
            Check.night(d, 5, "");
            Check.due("unlike by one of " + row, d.unlike(0, 5), 0);
        }
        SixDew d = Check.with(GIFTS + "row aaaa;", WET);
        Check.night(d, 5, "");
        Check.due("unlike, all dry", d.unlike(0, 5), -1);
    }

    /** "BENCH by N (0 to 100)": with L as A any SKY at all makes water; "none, not as told" */
    private static void benchByEach() {
        for (int sky = 0; sky <= 100; sky++) {
            String shade = sky < 100 ? "shade 0 0 0 " + (100 - sky) + ";" : "";
            SixDew d = Check.with("kind g 10 10;row a;" + shade, "air 0 10 10;");
            Check.due("bench by one less than " + sky, d.bench(0, sky - 1), -1);
            Check.due("bench by " + sky, d.bench(0, sky), 0);
            Check.due("bench by 100", d.bench(0, 100), 0);
            Check.due("bench by -1", d.bench(0, -1), -1);
            Check.due("bench by 101", d.bench(0, 101), -1);
            Check.due("bench by the most", d.bench(0, FAR[0]), -1);
            Check.due("bench by the least", d.bench(0, FAR[1]), -1);
        }
    }

    /** "BENCH: the first CELL": by number, row by row; "100 Y and X" */
    private static void benchFirst() {
        for (int y = 0; y < 12; y++) {
            for (int x = y % 2; x < 12; x += 2) {
                // Behind the one that has the least SKY there is one more such.
                String ground = "kind g 10 10;" + "row aaaaaaaaaaaa;".repeat(12) + "shade " + x
                        + " " + y
                        + " 0 60;shade 11 11 0 60;";
                SixDew d = Check.with(ground, "air 0 10 10;");
                Check.due("bench", d.bench(0, 40), 100 * y + x);
            }
        }
        Check.due("bench, none", Check.with(FLAT, WET).bench(0, 100), -1);
        // In a dry NIGHT the first of all is one, but not by an N that is not as told.
        SixDew dry = Check.with(FLAT, "");
        int[] due = {-1, 0, 0, -1};
        int[] less = {-1, 0, 100, 101};
        for (int i = 0; i < 4; i++) {
            Check.due("bench by " + less[i], dry.bench(0, less[i]), due[i]);
        }
        // "(0 at least)": a SKY of 0 is not less by N, and keeps nothing dry.
        dry = Check.with("kind g 1 99;row a;shade 0 0 0 100;", "air 5 10 11;");
        for (int n = 0; n <= 100; n++) {
            Check.due("bench without SKY", dry.bench(0, n), -1);
        }
    }

    /** "has no WATER behind STEPS 0 to 71" */
    private static void benchToSix() {
        for (int t : new int[] {0, 1, 35, 70, 71, 72, 73, 143}) {
            SixDew d = Check.with(FLAT, "air " + t + " 10 11;" + (t < 143 ? "air " + (t + 1)
                    + " 10 0;" : ""));
            Check.due("bench by water at " + t, d.bench(0, 0), t <= 71 ? -1 : 0);
            Check.due("roof by water at " + t, d.roof(0, 0, 0), t <= 71 ? -1 : 0);
        }
    }
}
