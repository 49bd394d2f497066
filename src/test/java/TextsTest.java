/** Promises 1 to 8 and 13 as far as texts go, by answers worked out from the document. */
public final class TextsTest {
    private static final String BASE = "kind g 10 20;row aa;row aa;";

    private TextsTest() {
    }

    public static void main(String[] args) {
        p01NewObject();
        p02Feed();
        p03End();
        p04Ground();
        p04KindFaults();
        p04RowFaults();
        p04ShadeAndWaterFaults();
        p04Tokens();
        p04Most();
        p05Fault();
        p06Cell();
        p06Sky();
        p07Night();
        p07NightFaults();
        p08Sky();
        p13Plan();
        p13PlanFaults();
        Check.finish("TextsTest");
    }

    private static void p01NewObject() {
        SixDew d = new SixDew();
        Check.due("NONE", SixDew.NONE, -1);
        int[] counts = {0, 0, 0, 0, 500, 0, 0, 0};
        for (int what = 0; what < counts.length; what++) {
            Check.due("count(" + what + ") of a new object", d.count(what), counts[what]);
        }
        Check.due("fault of a new object", d.fault(), 0);
        Check.due("now(0) of a new object", d.now(0), -1);
        Check.due("cell of a new object", Check.cell(d, 0, 0, 0), Check.THROWS);
        Check.due("is of a new object", Check.is(d, 0, 0, 0), Check.THROWS);
        Check.due("night on an empty GROUND", d.night(2), 0);
        Check.due("count(5) behind it", d.count(5), 4);
        Check.due("begin on an empty GROUND", d.begin(2), true);
        Check.due("on(7)", d.on(7), 7);
        Check.due("now(1)", d.now(1), 500);
        Check.due("now(3)", d.now(3), 0);
        Check.due("hay on an empty GROUND", d.hay(2, 0), 72);
        Check.due("bench on an empty GROUND", d.bench(2, 0), -1);
        Check.due("driest on an empty GROUND", d.driest(2, 1), -1);
        Check.due("walk on an empty GROUND", d.walk(2, 0, 0, 0), -1);
        Check.due("lawn on an empty GROUND", d.lawn(), 4);
        Check.due("clouded on an empty GROUND", d.clouded(2), 4095);
    }

    private static void p02Feed() {
        SixDew d = new SixDew();
        for (int n = 20; n <= 940; n += 20) {
            Check.due("feed", d.feed(0x20202020, 0x0a0a0a0a, 0x20202020, 0, -1), n);
        }
        Check.due("feed on a full tape", d.feed(0, 0, 0, 0, 0), -1);
        Check.due("the tape behind it", d.count(6), 940);
        Check.due("end(921)", d.end(921), true);
        Check.due("feed that would come to 941", d.feed(0, 0, 0, 0, 0), -1);
        Check.due("the tape behind it", d.count(6), 921);
        Check.due("end(920)", d.end(920), true);
        Check.due("feed to 940", d.feed(0, 0, 0, 0, 0), 940);

        // Of each number the highest byte first, and a, b, c, d, e in their order.
        d = new SixDew();
        d.feed(0x6b696e64, 0x20672031, 0x30203230, 0x3b726f77, 0x2061613b);
        Check.due("ground of hand-fed bytes", d.ground(), 2);
        Check.due("its columns", d.count(0), 2);
        Check.due("its HOLD", Check.cell(d, 1, 0, 2), 10);
        // A byte above 127 is no TOKEN.
        d.feed(0x20208020, 0, 0, 0, 0);
        Check.due("ground of a byte 128", d.ground(), -3);
    }

    private static void p03End() {
        SixDew d = new SixDew();
        Check.due("end(0) of no bytes", d.end(0), true);
        Check.due("end(1) of no bytes", d.end(1), false);
        d.feed(0x6b696e64, 0x20672031, 0x30203230, 0x3b726f77, 0x2061613b);
        Check.due("end(21) of 20", d.end(21), false);
        Check.due("end(-1)", d.end(-1), false);
        Check.due("end of the least int", d.end(Integer.MIN_VALUE), false);
        Check.due("the tape behind it", d.count(6), 20);
        Check.due("end(20)", d.end(20), true);
        Check.due("end(13)", d.end(13), true);
        Check.due("the tape behind it", d.count(6), 13);
        Check.due("end(14) behind it", d.end(14), false);
        Check.due("ground of the first 13", d.ground(), 1);
        Check.due("its KINDS", d.count(2), 1);
    }

    private static void p04Ground() {
        SixDew d = new SixDew();
        Check.groundDue(d, "", 0);
        Check.groundDue(d, " \n ", 0);
        Check.groundDue(d, "kind g 10 20;", 1);
        Check.groundDue(d, "kind\ng 010 0\n;row\naa;", 2);
        Check.groundDue(d, "water 7 ; kind grass 50 99 gives 9 ; kind tree 1 0 ; row abab ;"
                + " shade 3 0 9 100 ; row baba ; shade 0 1 0 1 ;", 7);
        int[] counts = {4, 2, 2, 2, 7, 0, 0, 0};
        for (int what = 0; what < counts.length; what++) {
            Check.due("count(" + what + ")", d.count(what), counts[what]);
        }
        // The most of all: 8 KINDS, 12 rows of 12, 12 shades, and each of its ends.
        StringBuilder most = new StringBuilder();
        for (char k = 'm'; k < 'm' + 8; k++) {
            most.append("kind ").append(k).append(" 1 0;");
        }
        most.append(Check.times("row abcdefghabcd;", 12));
        most.append(Check.times("shade 11 11 9 1;", 12)).append("water 999;");
        Check.groundDue(d, most.toString(), 33);
        Check.due("its last CELL", Check.cell(d, 11, 11, 0), 3);
        Check.due("its SKY", Check.cell(d, 11, 11, 1), 88);
        Check.due("count(4)", d.count(4), 999);
        // A FAULT: the GROUND, its NIGHTS, RUN and PLAN stay, the tape is empty.
        Check.nightDue(d, 1, "", 0);
        Check.due("begin", d.begin(1), true);
        Check.planDue(d, "on 1;", 1);
        Check.groundFault(d, "kind g 10 20;row aa", 19, 1);
        Check.due("its rows still", d.count(1), 12);
        Check.due("its NIGHTS still", d.count(5), 2);
        Check.due("its RUN still", d.now(0), 0);
        Check.due("its PLAN still", d.count(7), 1);
        // A new GROUND: all SLOTS empty, no RUN, no PLAN, 500 without 'water'.
        Check.groundDue(d, BASE, 3);
        Check.due("NIGHTS of a new GROUND", d.count(5), 0);
        Check.due("RUN of a new GROUND", d.now(0), -1);
        Check.due("on in a new GROUND", d.on(1), -1);
        Check.due("PLAN of a new GROUND", d.count(7), 0);
        Check.due("STOCK of a new GROUND", d.count(4), 500);
        Check.due("shades of a new GROUND", d.count(3), 0);
        Check.groundDue(d, "kind g 10 20;", 1);
        Check.due("columns of a GROUND without rows", d.count(0), 0);
        Check.due("rows of a GROUND without rows", d.count(1), 0);
        Check.groundDue(d, BASE, 3);
        Check.groundFault(d, "kind g 10 20;shade 0 0 0 1;", 19, 2);
    }

    private static void p04KindFaults() {
        SixDew d = new SixDew();
        Check.groundFault(d, "kind", 4, 1);
        Check.groundFault(d, "kind  \n", 7, 1);
        Check.groundFault(d, "kind 7 1 0;", 5, 1);
        Check.groundFault(d, "kind ;", 5, 1);
        for (String word : new String[] {"kind", "gives", "row", "shade", "water", "cloud", "wind",
            "air", "sun", "on", "wipe", "cover", "bare"}) {
            Check.groundFault(d, "kind " + word + " 1 0;", 5, 1);
        }
        Check.groundDue(d, "kind ons 1 0;kind o 1 0;kind win 1 0;", 3);
        Check.groundFault(d, "kind g;", 6, 1);
        Check.groundFault(d, "kind g 0 0;", 7, 2);
        Check.groundFault(d, "kind g 51 0;", 7, 2);
        Check.groundDue(d, "kind g 50 99;", 1);
        Check.groundFault(d, "kind g 1;", 8, 1);
        Check.groundFault(d, "kind g 1 100;", 9, 2);
        Check.groundFault(d, "kind g 1 0", 10, 1);
        Check.groundFault(d, "kind g 1 0 0;", 11, 1);
        Check.groundFault(d, "kind g 1 0 give 1;", 11, 1);
        Check.groundFault(d, "kind g 1 0 gives;", 16, 1);
        Check.groundFault(d, "kind g 1 0 gives 0;", 17, 2);
        Check.groundFault(d, "kind g 1 0 gives 10;", 17, 2);
        Check.groundFault(d, "kind g 1 0 gives 9 gives 9;", 19, 1);
        Check.groundFault(d, "kind g 1 0 gives 9", 18, 1);
        Check.groundFault(d, "kind g 1 0;kind h 1 0;kind g 1 0;", 27, 3);
        Check.groundDue(d, "kind g 1 0;kind gg 1 0;kind h 1 0;", 3);
        Check.groundDue(d, "kind gab 1 0;kind gac 1 0;kind gbb 1 0;kind zzz 1 0;", 4);
        Check.groundFault(d, "kind gab 1 0;kind gac 1 0;kind zbz 1 0;kind gac\n1 0;", 44, 3);
        Check.groundFault(d, "kind gab 1 0;kind gab\n1 0;", 18, 3);
        // Behind a row, be it a ninth, too: the least kind of FAULT of its WORD.
        Check.groundFault(d, "kind g 1 0;row a;kind g 1 0;", 17, 3);
        String eight = "kind m 1 0;kind n 1 0;kind o 1 0;kind p 1 0;kind q 1 0;kind r 1 0;"
                + "kind s 1 0;kind t 1 0;";
        Check.groundFault(d, eight + "kind u 1 0;", 88, 4);
        Check.groundFault(d, eight + "kind m 0", 88, 4);
        Check.groundFault(d, eight + "row a;kind u 1 0;", 94, 3);
    }

    private static void p04RowFaults() {
        SixDew d = new SixDew();
        Check.groundFault(d, "row a;", 4, 2);
        Check.groundFault(d, "kind g 1 0;row", 14, 1);
        Check.groundFault(d, "kind g 1 0;row 1;", 15, 1);
        Check.groundFault(d, "kind g 1 0;row b;", 15, 2);
        Check.groundFault(d, "kind g 1 0;row  aab;", 16, 2);
        Check.groundFault(d, "kind g 1 0;row row;", 15, 2);
        Check.groundFault(d, "kind g 1 0;row aa;row a;", 22, 2);
        Check.groundFault(d, "kind g 1 0;row aa;row aaa;", 22, 2);
        Check.groundFault(d, "kind g 1 0;row aaaaaaaaaaaaa;", 15, 1);
        Check.groundFault(d, "kind g 1 0;row a a;", 17, 1);
        Check.groundFault(d, "kind g 1 0;row a", 16, 1);
        Check.groundDue(d, "kind g 1 0;" + Check.times("row a;", 12), 13);
        Check.groundFault(d, "kind g 1 0;" + Check.times("row a;", 12) + "row bb", 83, 4);
    }

    private static void p04ShadeAndWaterFaults() {
        SixDew d = new SixDew();
        String cells = "kind g 1 0;row aa;";
        Check.groundFault(d, "shade 0 0 0 1;", 6, 2);
        Check.groundFault(d, cells + "shade", 23, 1);
        Check.groundFault(d, cells + "shade 2 0 0 1;", 24, 2);
        Check.groundFault(d, cells + "shade 2 1 0 1;", 24, 2);
        // A CELL of the rows told so far: the row told next does not count.
        Check.groundFault(d, cells + "shade 1 1 0 1;row aa;", 26, 2);
        Check.groundDue(d, cells + "row aa;shade 1 1 0 1;", 4);
        Check.groundFault(d, cells + "shade 1 0 10 1;", 28, 2);
        Check.groundFault(d, cells + "shade 1 0 9 0;", 30, 2);
        Check.groundFault(d, cells + "shade 1 0 9 101;", 30, 2);
        Check.groundFault(d, cells + "shade 1 0 9;", 29, 1);
        Check.groundFault(d, cells + "shade 1 0 9 1 1;", 32, 1);
        Check.groundFault(d, cells + "shade x 0 9 1;", 24, 1);
        Check.groundDue(d, cells + Check.times("shade 1 0 9 100;", 12), 14);
        Check.groundFault(d, cells + Check.times("shade 1 0 9 100;", 12) + "shade 7 7;", 210, 4);
        Check.groundFault(d, "water;", 5, 1);
        Check.groundFault(d, "water 1000;", 6, 1);
        Check.groundFault(d, "water x;", 6, 1);
        Check.groundFault(d, "water 5 6;", 8, 1);
        Check.groundFault(d, "water 0;kind g 1 0;water 0;", 19, 3);
        Check.groundDue(d, "water 0;", 1);
        Check.due("count(4)", d.count(4), 0);
        Check.groundDue(d, "water 999;", 1);
        Check.due("count(4)", d.count(4), 999);
    }

    private static void p04Tokens() {
        SixDew d = new SixDew();
        Check.groundFault(d, "Kind g 1 0;", 0, 1);
        Check.groundFault(d, ";", 0, 1);
        Check.groundFault(d, "7", 0, 1);
        Check.groundFault(d, "cloud 0 0;", 0, 1);
        Check.groundFault(d, "kind g 1 0;;", 11, 1);
        Check.groundFault(d, "kind g 1 0.", 10, 1);
        Check.groundFault(d, "kind\tg 1 0;", 4, 1);
        Check.groundFault(d, "kind g1 0;", 5, 1);
        Check.groundFault(d, "kind g 1a 0;", 7, 1);
        Check.groundFault(d, "kind1 g 1 0;", 0, 1);
        Check.groundFault(d, "kind g 1 0gives 1;", 9, 1);
        Check.groundFault(d, "kind g 0001 0;", 7, 1);
        Check.groundDue(d, "kind g 001 000;", 1);
        Check.groundDue(d, "kind abcdefghijkl 1 0;", 1);
        Check.groundFault(d, "kind abcdefghijklm 1 0;", 5, 1);
        Check.groundDue(d, "\n\nkind  g\n1 0;\n\nrow a;\n", 2);
    }

    private static void p04Most() {
        SixDew d = new SixDew();
        String nine = padded(BASE, 900);
        Check.groundDue(d, nine, 3);
        // More bytes than the most, though they are blanks, or a '.' that comes later.
        Check.groundFault(d, nine + " ", 900, 1);
        Check.groundFault(d, nine + "                        .", 900, 1);
        Check.groundFault(d, padded("kind g 10 20;row", 940), 900, 1);
        Check.groundFault(d, padded("kind g 10 20", 900), 900, 1);
        // A FAULT ahead of it is the first one.
        Check.groundFault(d, padded("kind g 10 20;row 7;", 940), 17, 1);
        // TOKENS that begin ahead of it are read whole, faulty or not.
        Check.groundFault(d, padded(BASE, 898) + "row aa;", 900, 1);
        Check.groundFault(d, padded(BASE, 898) + "abc aa;", 898, 1);
        Check.groundFault(d, padded(BASE, 899) + "row aa;", 900, 1);
        Check.groundFault(d, padded(BASE + "row", 898) + "aaa;", 898, 2);
        Check.groundFault(d, padded(BASE + "row", 899) + "aa;", 900, 1);
        Check.groundFault(d, padded(BASE + "water", 899) + "9999;", 899, 1);
        Check.groundFault(d, padded(BASE + "row aa", 899) + ";x", 900, 1);
        Check.groundFault(d, padded(BASE + "row aa", 900) + ";", 900, 1);
        Check.groundDue(d, padded(BASE + "row aa", 899) + ";", 4);
        Check.groundFault(d, padded(BASE, 900) + "row aa;", 900, 1);
        Check.groundFault(d, padded(BASE, 900) + "kind h 1 0;", 900, 1);
        SixDew n = new SixDew();
        Check.nightDue(n, 0, padded("wind 0 1;", 400), 1);
        Check.nightFault(n, 0, padded("wind 0 1;", 401), 400, 1);
        Check.nightFault(n, 0, padded("wind 0 1;", 398) + "wind 0 1;", 400, 1);
        Check.nightFault(n, 0, padded("wind 0", 398) + "111;", 398, 2);
        Check.planDue(n, padded("on 1;", 300), 1);
        Check.planFault(n, padded("on 1;", 301), 300, 1);
        Check.planFault(n, padded("on 1;", 299) + "on 1;", 300, 1);
        Check.planFault(n, padded("on", 299) + "145;", 299, 2);
    }

    private static String padded(String text, int bytes) {
        return text + Check.times(" ", bytes - text.length());
    }

    private static void p05Fault() {
        SixDew d = new SixDew();
        Check.due("fault ahead of any", d.fault(), 0);
        Check.groundFault(d, "kind g 1 0;kind g 1 0;", 16, 3);
        Check.due("fault again", d.fault(), 3);
        Check.nightDue(d, 0, "", 0);
        Check.nightFault(d, 0, "wind 0 10;", 7, 2);
        Check.planDue(d, "on 1;", 1);
        Check.planFault(d, "wipe 0 0;", 5, 2);
        Check.groundDue(d, "", 0);
        Check.planFault(d, "x", 0, 1);
        Check.due("night of no SLOT", d.night(6), -1001);
        Check.due("fault behind it", d.fault(), 0);
        Check.planFault(d, "x", 0, 1);
        Check.due("a LAWN is no text with FAULTS", d.lawn(), 0);
        Check.due("fault behind it", d.fault(), 1);
        Check.due("image", d.image(0), true);
        Check.nightDue(d, 0, "", 0);
        Check.due("restore", d.restore(0), true);
        Check.due("fault behind it", d.fault(), 0);
    }

    private static void p06Cell() {
        SixDew d = new SixDew();
        Check.groundDue(d, "kind g 10 20;kind t 50 0 gives 9;row abb;row bba;shade 2 1 0 30;", 5);
        int[][] kinds = {{0, 1, 1}, {1, 1, 0}};
        for (int y = 0; y < 2; y++) {
            for (int x = 0; x < 3; x++) {
                int k = kinds[y][x];
                Check.due("KIND", Check.cell(d, x, y, 0), k);
                Check.due("SKY", Check.cell(d, x, y, 1), x == 2 && y == 1 ? 70 : 100);
                Check.due("HOLD", Check.cell(d, x, y, 2), k == 0 ? 10 : 50);
                Check.due("GIVE", Check.cell(d, x, y, 3), k == 0 ? 20 : 0);
                Check.due("what it gives", Check.cell(d, x, y, 4), k == 0 ? 0 : 9);
            }
        }
        int[][] none = {{-1, 0, 0}, {3, 0, 0}, {0, -1, 0}, {0, 2, 0}, {0, 0, -1}, {0, 0, 5},
            {Integer.MAX_VALUE, 0, 0}, {0, Integer.MIN_VALUE, 0}};
        for (int[] a : none) {
            Check.due("no such cell", Check.cell(d, a[0], a[1], a[2]), Check.THROWS);
        }
    }

    private static void p06Sky() {
        SixDew d = new SixDew();
        String rows = Check.times("row aaaaa;", 5);
        // R in X and in Y; shades add up; 0 at least; rows told behind the shade are hidden, too.
        Check.groundDue(d, "kind g 1 0;row aaaaa;shade 1 0 1 40;" + rows
                + "shade 3 4 0 100;shade 3 4 9 1;shade 2 1 1 50;", 11);
        int[][] sky = {
            {59, 9, 9, 49, 99},
            {59, 9, 9, 49, 99},
            {99, 49, 49, 49, 99},
            {99, 99, 99, 99, 99},
            {99, 99, 99, 0, 99},
            {99, 99, 99, 99, 99}};
        for (int y = 0; y < 6; y++) {
            for (int x = 0; x < 5; x++) {
                Check.due("SKY of " + x + " " + y, Check.cell(d, x, y, 1), sky[y][x]);
            }
        }
        // A covered CELL of a RUN has its SKY as told in the GROUND.
        Check.nightDue(d, 0, "", 0);
        Check.due("begin", d.begin(0), true);
        Check.planDue(d, "cover 4 5;", 1);
        Check.due("go(1)", d.go(1), -1);
        Check.due("SKY of the GROUND", Check.cell(d, 4, 5, 1), 99);
    }

    private static void p07Night() {
        SixDew d = new SixDew();
        Check.groundDue(d, BASE, 3);
        Check.nightDue(d, 5, "cloud 0 100; wind 0 9; air 0 40 40; sun 143;", 4);
        Check.due("SLOTS", d.count(5), 32);
        Check.nightDue(d, 0, "", 0);
        Check.due("SLOTS", d.count(5), 33);
        Check.nightDue(d, 0, Check.times("sun 1;", 24), 24);
        for (int slot : new int[] {-1, 6, Integer.MAX_VALUE, Integer.MIN_VALUE}) {
            Check.tape(d, Check.bytes("sun 1;"));
            Check.due("night of no SLOT", d.night(slot), -1001);
            Check.due("the tape behind it", d.count(6), 0);
        }
        Check.due("SLOTS", d.count(5), 33);
        // A FAULT: the NIGHT stays.
        Check.nightFault(d, 5, "sun 1; sun", 10, 1);
        Check.due("cloud still", d.sky(5, 0, 0), 100);
        Check.nightFault(d, 3, "sun", 3, 1);
        Check.due("SLOT still empty", d.count(5), 33);
        // Another one in its place is told alone.
        Check.nightDue(d, 5, "wind 3 2;", 1);
        Check.due("cloud now", d.sky(5, 0, 0), 0);
        Check.due("SUN now", d.sky(5, 143, 4), 0);
    }

    private static void p07NightFaults() {
        SixDew d = new SixDew();
        Check.nightFault(d, 0, "cloud", 5, 1);
        Check.nightFault(d, 0, "cloud 144 0;", 6, 2);
        Check.nightFault(d, 0, "cloud 0 101;", 8, 2);
        Check.nightFault(d, 0, "cloud 0;", 7, 1);
        Check.nightFault(d, 0, "wind 0 10;", 7, 2);
        Check.nightFault(d, 0, "wind 0 9 9;", 9, 1);
        Check.nightFault(d, 0, "air 0 41 0;", 6, 2);
        Check.nightFault(d, 0, "air 0 40 41;", 9, 2);
        Check.nightFault(d, 0, "air 0 40;", 8, 1);
        Check.nightFault(d, 0, "sun 144;", 4, 2);
        Check.nightFault(d, 0, "sun 143 1;", 8, 1);
        Check.nightFault(d, 0, "sun 1000;", 4, 1);
        Check.nightFault(d, 0, "sun a;", 4, 1);
        Check.nightFault(d, 0, "moon 1;", 0, 1);
        Check.nightFault(d, 0, "kind g 1 0;", 0, 1);
        Check.nightFault(d, 0, "on 1;", 0, 1);
        Check.nightFault(d, 0, "sun 1;;", 6, 1);
        Check.nightFault(d, 0, "sun 1", 5, 1);
        // None less than the one ahead, of whatever LINE.
        Check.nightFault(d, 0, "cloud 7 0;sun 6;", 14, 2);
        Check.nightFault(d, 0, "cloud 7 0;wind 7 0;air 6 0 0;", 23, 2);
        Check.nightDue(d, 0, "cloud 7 0;wind 7 0;air 7 0 0;sun 8;", 4);
        Check.nightFault(d, 0, Check.times("sun 1;", 24) + "sun 0", 144, 4);
        Check.nightFault(d, 0, Check.times("sun 1;", 24) + "son 1;", 144, 1);
        Check.nightFault(d, 0, Check.times("sun 1;", 23) + "sun 0;", 142, 2);
    }

    private static void p08Sky() {
        SixDew d = new SixDew();
        Check.due("sky of an empty SLOT", d.sky(0, 0, 0), -1);
        Check.nightDue(d, 0, "cloud 5 30;cloud 5 31;wind 5 4;air 6 20 15;sun 70;cloud 72 0;sun 80;",
                7);
        int[][] told = {{0, 0, 0, 10, 8, 0}, {4, 0, 0, 10, 8, 0}, {5, 31, 4, 10, 8, 0},
            {6, 31, 4, 20, 15, 0}, {69, 31, 4, 20, 15, 0}, {70, 31, 4, 20, 15, 1},
            {72, 0, 4, 20, 15, 1}, {143, 0, 4, 20, 15, 1}};
        for (int[] a : told) {
            for (int what = 0; what < 5; what++) {
                Check.due("sky(0, " + a[0] + ", " + what + ")", d.sky(0, a[0], what), a[what + 1]);
            }
        }
        int[][] none = {{1, 0, 0}, {-1, 0, 0}, {6, 0, 0}, {0, -1, 0}, {0, 144, 0}, {0, 0, -1},
            {0, 0, 5}, {0, 0, 6}, {0, 0, Integer.MAX_VALUE}, {0, 145, 0}, {7, 0, 0}};
        for (int[] a : none) {
            Check.due("sky of none", d.sky(a[0], a[1], a[2]), -1);
        }
    }

    private static void p13Plan() {
        SixDew d = new SixDew();
        Check.planDue(d, "", 0);
        Check.planDue(d, "on 1;on 144;", 2);
        Check.groundDue(d, BASE, 3);
        Check.planDue(d, "on 144;wipe 1 0;cover 0 1;bare 1 1;", 4);
        Check.due("LINES of the PLAN", d.count(7), 4);
        Check.planDue(d, Check.times("on 1;", 30), 30);
        Check.planFault(d, "on 1;x", 5, 1);
        Check.due("LINES of the PLAN still", d.count(7), 30);
        Check.planDue(d, "", 0);
        Check.due("LINES of the PLAN", d.count(7), 0);
    }

    private static void p13PlanFaults() {
        SixDew d = new SixDew();
        Check.planFault(d, "wipe 0 0;", 5, 2);
        Check.groundDue(d, BASE, 3);
        Check.planFault(d, "on;", 2, 1);
        Check.planFault(d, "on 0;", 3, 2);
        Check.planFault(d, "on 145;", 3, 2);
        Check.planFault(d, "on 1 1;", 5, 1);
        for (String word : new String[] {"wipe", "bare", "cover"}) {
            int at = word.length() + 1;
            Check.planFault(d, word, at - 1, 1);
            Check.planFault(d, word + " 2 0;", at, 2);
            Check.planFault(d, word + " 0 2;", at + 2, 2);
            Check.planFault(d, word + " 2 2;", at, 2);
            Check.planFault(d, word + " 0;", at + 1, 1);
            Check.planFault(d, word + " 0 0 0;", at + 4, 1);
        }
        Check.planFault(d, "sun 1;", 0, 1);
        Check.planFault(d, Check.times("on 1;", 30) + "wipe 9", 150, 4);
        Check.planFault(d, Check.times("on 1;", 30) + "won 9", 150, 1);
    }
}
