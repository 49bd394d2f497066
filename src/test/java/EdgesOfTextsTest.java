/**
 * The edges that the document names for the tape and its texts (promises 1 to 8 and 13), sentence
 * by sentence: each method holds one, told ahead of it in the document's words.
 */
public final class EdgesOfTextsTest {
    private static final String[] TOLD_WORDS = {"kind", "gives", "row", "shade", "water", "cloud",
        "wind", "air", "sun", "on", "wipe", "cover", "bare"};
    private static final int TOKEN = 1;
    private static final int NUMBER = 2;
    private static final int TWICE = 3;
    private static final int MANY = 4;

    private EdgesOfTextsTest() {
    }

    public static void main(String[] args) {
        blanks();
        words();
        numbers();
        wordsGoOn();
        holdGiveGives();
        kindsAheadOfRows();
        rowLetters();
        rowLengths();
        shades();
        shadeOfRowsToldSoFar();
        stock();
        names();
        mostKindsRowsShades();
        lettersOfKinds();
        nightLines();
        nightInOrder();
        planLines();
        planOfTheGroundNow();
        endOfAText();
        firstAlongTheText();
        leastOfOneToken();
        mostBytes();
        tokensReadWhole();
        skyOfACell();
        skyOfASlot();
        tapeFull();
        tapeEnd();
        emptyTexts();
        faultOfTheLatest();
        faultStays();
        newGround();
        noSuchSlot();
        noSuchCell();
        Check.finish("EdgesOfTextsTest");
    }

    private static boolean isLetter(int sign) {
        return sign >= 'a' && sign <= 'z';
    }

    private static boolean isDigit(int sign) {
        return sign >= '0' && sign <= '9';
    }

    private static String padded(String text, int bytes) {
        return text + " ".repeat(bytes - text.length());
    }

    private static String kinds(int n) {
        StringBuilder s = new StringBuilder();
        for (int k = 0; k < n; k++) {
            s.append("kind ").append((char) ('m' + k)).append(" 1 0;");
        }
        return s.toString();
    }

    /** A NUMBER of a GROUND's LINE, tried from 0 to 1000: told from least to most alone. */
    private static void groundNumber(String ahead, String behind, int least, int most) {
        for (int n = 0; n <= 1000; n++) {
            SixDew d = new SixDew();
            if (n >= least && n <= most) {
                Check.due(ahead + n + behind, Check.ground(d, ahead + n + behind) > 0, true);
                Check.due("fault()", d.fault(), 0);
            } else {
                Check.groundFault(d, ahead + n + behind, ahead.length(), n > 999 ? TOKEN : NUMBER);
            }
        }
    }

    private static void nightNumber(String ahead, String behind, int least, int most) {
        SixDew d = new SixDew();
        for (int n = 0; n <= 1000; n++) {
            d = n % 50 == 0 ? new SixDew() : d;
            if (n >= least && n <= most) {
                Check.due(ahead + n + behind, Check.night(d, 0, ahead + n + behind) > 0, true);
                Check.due("fault()", d.fault(), 0);
            } else {
                Check.nightFault(d, 0, ahead + n + behind, ahead.length(), n > 999 ? TOKEN : NUMBER);
            }
        }
    }

    private static void planNumber(String ground, String ahead, String behind, int least, int most) {
        SixDew d = new SixDew();
        for (int n = 0; n <= 1000; n++) {
            if (n % 50 == 0) {
                d = new SixDew();
                Check.due("ground()", Check.ground(d, ground) >= 0, true);
            }
            if (n >= least && n <= most) {
                Check.due(ahead + n + behind, Check.plan(d, ahead + n + behind) > 0, true);
                Check.due("fault()", d.fault(), 0);
            } else {
                Check.planFault(d, ahead + n + behind, ahead.length(), n > 999 ? TOKEN : NUMBER);
            }
        }
    }

    /** "TOKENS of all texts, with blanks (32, 10) between them or not" */
    private static void blanks() {
        for (int sign = 0; sign < 256; sign++) {
            SixDew d = new SixDew();
            String text = "kind" + (char) sign + "g 1 0;";
            if (sign == 32 || sign == 10) {
                Check.groundDue(d, text, 1);
            } else {
                Check.groundFault(d, text, isLetter(sign) || isDigit(sign) ? 0 : 4, TOKEN);
            }
        }
        SixDew d = new SixDew();
        Check.groundDue(d, " \n kind\n\n g\n1  0 \n;\nrow\na\n; \n", 2);
        Check.groundDue(d, "kind g 1 0;row a;shade 0 0 0 1;water 5;", 4);
        Check.nightDue(d, 0, "\nsun 1\n;\n\nsun\n2; ", 2);
        Check.nightFault(d, 0, "\rsun 1;", 0, TOKEN);
        Check.planDue(d, "\non 1\n;\n\non\n2; ", 2);
        Check.planFault(d, "on\t1;", 2, TOKEN);
    }

    /** "WORDS: small letters, 1 to 12" */
    private static void words() {
        for (int sign = 0; sign < 256; sign++) {
            SixDew d = new SixDew();
            String text = "kind " + (char) sign + " 1 0;";
            if (isLetter(sign)) {
                Check.groundDue(d, text, 1);
            } else {
                Check.groundFault(d, text, sign == 32 || sign == 10 ? 7 : 5, TOKEN);
            }
        }
        for (int letters = 1; letters <= 30; letters++) {
            SixDew d = new SixDew();
            String name = "z".repeat(letters);
            if (letters <= 12) {
                Check.groundDue(d, "kind " + name + " 1 0;", 1);
            } else {
                Check.groundFault(d, "kind " + name + " 1 0;", 5, TOKEN);
            }
        }
    }

    /** "NUMBERS: 1 to 3 digits" */
    private static void numbers() {
        for (int digits = 0; digits <= 20; digits++) {
            SixDew d = new SixDew();
            String text = "water " + "0".repeat(digits) + ";";
            if (digits >= 1 && digits <= 3) {
                Check.groundDue(d, text, 1);
                Check.due("STOCK", d.count(4), 0);
            } else {
                Check.groundFault(d, text, 6, TOKEN);
            }
        }
        SixDew d = new SixDew();
        Check.groundDue(d, "water 007;", 1);
        Check.due("STOCK", d.count(4), 7);
        Check.groundFault(d, "water 0007;", 6, TOKEN);
        Check.groundFault(d, "water -7;", 6, TOKEN);
        Check.groundFault(d, "water /;", 6, TOKEN);
        Check.groundFault(d, "water :;", 6, TOKEN);
        Check.groundFault(d, "water 4294967297;", 6, TOKEN);
    }

    /** "A WORD, NUMBER goes on as long as small letters and digits do; .. is no TOKEN" */
    private static void wordsGoOn() {
        SixDew d = new SixDew();
        Check.groundFault(d, "water1;", 0, TOKEN);
        Check.groundFault(d, "water 1a;", 6, TOKEN);
        Check.groundFault(d, "water a1;", 6, TOKEN);
        Check.groundFault(d, "kind g 10gives 1;", 7, TOKEN);
        Check.groundFault(d, "kind g 1 0gives 1;", 9, TOKEN);
        Check.groundFault(d, "kindg 1 0;", 0, TOKEN);
        Check.groundFault(d, "kind g 1 0;row a1;", 15, TOKEN);
        Check.groundFault(d, "kind g 1 0;row aA;", 16, TOKEN);
        Check.groundFault(d, "kind g 1 0;rowa;", 11, TOKEN);
        // A sign of none is no WORD of no letter: 1, not 2.
        Check.groundFault(d, "kind g 1 0;row .;", 15, TOKEN);
        Check.groundFault(d, "kind g 1 0;row a;row .;", 21, TOKEN);
        Check.groundFault(d, "kind g 1 0;row a;row A;", 21, TOKEN);
        Check.nightFault(d, 0, "sun1;", 0, TOKEN);
        Check.nightFault(d, 0, "sun 1x;", 4, TOKEN);
        Check.planFault(d, "on1;", 0, TOKEN);
        Check.planFault(d, "on 1on;", 3, TOKEN);
    }

    /** "'kind' NAME HOLD GIVE [ 'gives' N ] (1 to 50; 0 to 99; 1 to 9; ..)" */
    private static void holdGiveGives() {
        groundNumber("kind g ", " 0;", 1, 50);
        groundNumber("kind g 1 ", ";", 0, 99);
        groundNumber("kind g 1 0 gives ", ";", 1, 9);
        SixDew d = new SixDew();
        Check.groundDue(d, "kind g 1 0;kind h 50 99 gives 1;kind i 2 3 gives 9;row abc;", 4);
        int[][] due = {{0, 100, 1, 0, 0}, {1, 100, 50, 99, 1}, {2, 100, 2, 3, 9}};
        for (int x = 0; x < 3; x++) {
            for (int what = 0; what < 5; what++) {
                Check.due("cell(" + x + ", 0, " + what + ")", Check.cell(d, x, 0, what), due[x][what]);
            }
        }
        // A KIND of an earlier text gives nothing in a later one that tells none.
        Check.groundDue(d, "kind g 1 0;kind h 1 0;kind i 1 0;row abc;", 4);
        Check.due("what it gives", Check.cell(d, 2, 0, 4), 0);
    }

    /** "ahead of all rows"; "3 .. a kind behind a row (at its WORD)" */
    private static void kindsAheadOfRows() {
        SixDew d = new SixDew();
        Check.groundDue(d, "water 1;kind g 1 0;kind h 1 0;row a;", 4);
        Check.groundFault(d, "kind g 1 0;row a; kind h 1 0;", 18, TWICE);
        Check.groundFault(d, "kind g 1 0;row a;water 1;kind", 25, TWICE);
    }

    /** "CELLS (a WORD: a the first KIND, b the second one, and so on ..)"; "a letter of no KIND" */
    private static void rowLetters() {
        for (int kinds = 0; kinds <= 8; kinds++) {
            String ahead = kinds(kinds);
            for (char letter = 'a'; letter <= 'z'; letter++) {
                SixDew d = new SixDew();
                if (letter - 'a' < kinds) {
                    Check.groundDue(d, ahead + "row " + letter + ";", kinds + 1);
                    Check.due("KIND of " + letter, Check.cell(d, 0, 0, 0), letter - 'a');
                } else {
                    Check.groundFault(d, ahead + "row " + letter + ";", ahead.length() + 4, NUMBER);
                }
            }
        }
        // Be it at the WORD's last letter, and in a later row.
        SixDew d = new SixDew();
        Check.groundFault(d, "kind g 1 0;row aab;", 15, NUMBER);
        Check.groundFault(d, "kind g 1 0;row aaa;row aab;", 23, NUMBER);
        Check.groundFault(d, "kind g 1 0;row 1;", 15, TOKEN);
    }

    /** "as many letters in each row as in the first"; "CELLS of another number" */
    private static void rowLengths() {
        for (int first = 1; first <= 13; first++) {
            for (int next = 1; next <= 13; next++) {
                SixDew d = new SixDew();
                String text = "kind g 1 0;row " + "a".repeat(first) + ";row " + "a".repeat(next) + ";";
                if (first == 13) {
                    Check.groundFault(d, text, 15, TOKEN);
                } else if (next == 13) {
                    Check.groundFault(d, text, 20 + first, TOKEN);
                } else if (next != first) {
                    Check.groundFault(d, text, 20 + first, NUMBER);
                } else {
                    Check.groundDue(d, text, 3);
                    Check.due("columns", d.count(0), first);
                    Check.due("rows", d.count(1), 2);
                }
            }
        }
    }

    /** "'shade' X Y R N (a CELL ..; 0 to 9; 1 to 100)"; "X where there is no such column, Y no row" */
    private static void shades() {
        String cells = "kind g 1 0;row aaa;row aaa;";
        groundNumber(cells + "shade ", " 0 0 1;", 0, 2);
        groundNumber(cells + "shade 0 ", " 0 1;", 0, 1);
        groundNumber(cells + "shade 2 1 ", " 1;", 0, 9);
        groundNumber(cells + "shade 2 1 9 ", ";", 1, 100);
        // Both are none: X comes first.
        SixDew d = new SixDew();
        Check.groundFault(d, cells + "shade 3 2 0 1;", 33, NUMBER);
    }

    /** "a CELL of the rows told so far" */
    private static void shadeOfRowsToldSoFar() {
        SixDew d = new SixDew();
        Check.groundFault(d, "shade 0 0 0 1;", 6, NUMBER);
        Check.groundFault(d, "kind g 1 0;shade 0 0 0 1;row a;", 17, NUMBER);
        Check.groundFault(d, "kind g 1 0;row aa;shade 0 1 0 1;row aa;", 26, NUMBER);
        Check.groundDue(d, "kind g 1 0;row aa;shade 0 0 0 1;row aa;shade 0 1 0 1;", 5);
        // A larger GROUND told earlier does not count.
        Check.groundFault(d, "kind g 1 0;row a;shade 1 0 0 1;", 23, NUMBER);
        Check.groundFault(d, "kind g 1 0;row a;shade 0 1 0 1;", 25, NUMBER);
    }

    /** "'water' N (0 to 999; once; 500 without)"; "water told twice" */
    private static void stock() {
        groundNumber("water ", ";", 0, 999);
        SixDew d = new SixDew();
        Check.due("STOCK ahead of any GROUND", d.count(4), 500);
        Check.groundDue(d, "water 999;", 1);
        Check.due("STOCK", d.count(4), 999);
        Check.groundDue(d, "water 0;", 1);
        Check.due("STOCK", d.count(4), 0);
        Check.groundFault(d, "water 500; water 500;", 11, TWICE);
        Check.groundFault(d, "water 500;kind g 1 0;row a;water", 27, TWICE);
        Check.due("STOCK", d.count(4), 0);
        Check.groundDue(d, "kind g 1 0;row a;", 2);
        Check.due("STOCK without", d.count(4), 500);
        Check.groundDue(d, "", 0);
        Check.due("STOCK without", d.count(4), 500);
    }

    /** "NAME: a WORD, none of those told here, in a NIGHT or in a PLAN; told once" */
    private static void names() {
        for (String word : TOLD_WORDS) {
            SixDew d = new SixDew();
            Check.groundFault(d, "kind " + word + " 1 0;", 5, TOKEN);
            Check.groundFault(d, "kind g 1 0;kind " + word + " 1 0;", 16, TOKEN);
            Check.groundDue(d, "kind " + word + "s 1 0;kind s" + word + " 1 0;", 2);
            String shorter = word.substring(1);
            Check.groundDue(d, "kind x" + shorter + " 1 0;", 1);
            Check.groundDue(d, "kind " + word.substring(0, word.length() - 1) + "x 1 0;", 1);
        }
        // Each of eight told once more, ahead of a ninth and as the eighth.
        for (int first = 0; first < 7; first++) {
            SixDew d = new SixDew();
            String ahead = kinds(7) + "kind ";
            Check.groundFault(d, ahead + (char) ('m' + first) + " 1 0;", ahead.length(), TWICE);
        }
        SixDew d = new SixDew();
        Check.groundDue(d, "kind a 1 0;kind aa 1 0;kind ab 1 0;kind ba 1 0;kind b 1 0;", 5);
        Check.groundFault(d, "kind abcdefghijkl 1 0;kind abcdefghijkl 1 0;", 27, TWICE);
        Check.groundFault(d, "kind g 1 0;kind\ng\n1 0;", 16, TWICE);
        Check.groundDue(d, "kind abcdefghijkl 1 0;kind abcdefghijkm 1 0;", 2);
        // Names told in an earlier text may come again, and those of a text with a FAULT.
        Check.groundDue(d, "kind abcdefghijkl 1 0;", 1);
    }

    /** "8 KINDS, 12 rows, 12 shades at most"; "a ninth KIND, a 13th row, a 13th shade" */
    private static void mostKindsRowsShades() {
        SixDew d = new SixDew();
        Check.groundDue(d, kinds(8), 8);
        Check.due("KINDS", d.count(2), 8);
        Check.groundFault(d, kinds(9), 88, MANY);
        Check.groundFault(d, kinds(8) + "  kind", 90, MANY);
        Check.groundFault(d, kinds(8) + "kind m", 88, MANY);
        String rows = "row a;".repeat(12);
        Check.groundDue(d, kinds(1) + rows, 13);
        Check.due("rows", d.count(1), 12);
        Check.groundFault(d, kinds(1) + rows + "row a;", 83, MANY);
        Check.groundFault(d, kinds(1) + rows + " row", 84, MANY);
        Check.groundFault(d, kinds(1) + rows + "row z", 83, MANY);
        String shades = "shade 0 0 0 1;".repeat(12);
        Check.groundDue(d, kinds(1) + "row a;" + shades, 14);
        Check.due("shades", d.count(3), 12);
        Check.due("SKY", Check.cell(d, 0, 0, 1), 88);
        Check.groundFault(d, kinds(1) + "row a;" + shades + "shade 0 0 0 1;", 185, MANY);
        Check.groundFault(d, kinds(1) + "row a;" + shades + "shade 9 9", 185, MANY);
        // Those of an earlier text do not count.
        Check.groundDue(d, kinds(8) + "row a;".repeat(12) + shades, 32);
        Check.groundDue(d, kinds(8) + "row a;".repeat(12) + shades, 32);
    }

    /** "KINDS numbered from 0" */
    private static void lettersOfKinds() {
        SixDew d = new SixDew();
        Check.groundDue(d, "kind h 7 1;kind a 8 2;kind b 9 3;row abc;", 4);
        for (int x = 0; x < 3; x++) {
            Check.due("KIND", Check.cell(d, x, 0, 0), x);
            Check.due("HOLD", Check.cell(d, x, 0, 2), 7 + x);
            Check.due("GIVE", Check.cell(d, x, 0, 3), 1 + x);
        }
    }

    /**
     * "'cloud' T N (0 to 100) | 'wind' T N (0 to 9) | 'air' T A L (0 to 40 both) | 'sun' T. T: 0 to
     * 143"
     */
    private static void nightLines() {
        nightNumber("cloud 0 ", ";", 0, 100);
        nightNumber("wind 0 ", ";", 0, 9);
        nightNumber("air 0 ", " 0;", 0, 40);
        nightNumber("air 0 0 ", ";", 0, 40);
        nightNumber("cloud ", " 0;", 0, 143);
        nightNumber("wind ", " 0;", 0, 143);
        nightNumber("air ", " 0 0;", 0, 143);
        nightNumber("sun ", ";", 0, 143);
        // "{ LINE ; }, 24 at most"; "a 25th LINE of a NIGHT"
        SixDew d = new SixDew();
        Check.nightDue(d, 0, "wind 0 1;".repeat(24), 24);
        Check.nightFault(d, 0, "wind 0 1;".repeat(25), 216, MANY);
        Check.nightFault(d, 0, "wind 0 1;".repeat(24) + "\nsun", 217, MANY);
        Check.nightFault(d, 0, "wind 0 1;".repeat(24) + "air 144", 216, MANY);
        Check.nightFault(d, 0, "wind 0 1;".repeat(24) + "cloud 0 0;", 216, MANY);
    }

    /** "none less than the one ahead" */
    private static void nightInOrder() {
        String[] lines = {"cloud T 1;", "wind T 1;", "air T 1 1;", "sun T;"};
        for (String first : lines) {
            for (String next : lines) {
                SixDew d = new SixDew();
                String ahead = first.replace("T", "70");
                int place = ahead.length() + next.indexOf('T');
                Check.nightDue(d, 0, ahead + next.replace("T", "70"), 2);
                Check.nightDue(d, 0, ahead + next.replace("T", "71"), 2);
                Check.nightFault(d, 0, ahead + next.replace("T", "69"), place, NUMBER);
                Check.nightFault(d, 0, ahead + next.replace("T", "0"), place, NUMBER);
            }
        }
        SixDew d = new SixDew();
        // The one ahead is the latest one, and a text ahead tells nothing.
        Check.nightDue(d, 0, "sun 143;wind 143 1;", 2);
        Check.nightDue(d, 0, "sun 0;wind 0 1;", 2);
        Check.nightFault(d, 0, "sun 2;sun 9;sun 8;", 16, NUMBER);
    }

    /** "'on' N (1 to 144) | 'wipe' X Y | 'cover' X Y | 'bare' X Y"; "30 at most"; "a 31st of a PLAN" */
    private static void planLines() {
        String ground = "kind g 1 0;row aaaaaaaaaaaa;row aaaaaaaaaaaa;row aaaaaaaaaaaa;";
        planNumber("", "on ", ";", 1, 144);
        for (String does : new String[] {"wipe ", "cover ", "bare "}) {
            planNumber(ground, does, " 0;", 0, 11);
            planNumber(ground, does + "11 ", ";", 0, 2);
        }
        SixDew d = new SixDew();
        Check.groundDue(d, ground, 4);
        Check.planDue(d, "on 144;".repeat(30), 30);
        Check.planFault(d, "on 144;".repeat(30) + "on 1;", 210, MANY);
        Check.planFault(d, "on 1;".repeat(30) + " on", 151, MANY);
        Check.planFault(d, "on 1;".repeat(30) + "bare 12 0;", 150, MANY);
        Check.due("LINES of the PLAN", d.count(7), 30);
    }

    /** "CELLS of the GROUND now" */
    private static void planOfTheGroundNow() {
        SixDew d = new SixDew();
        Check.planFault(d, "wipe 0 0;", 5, NUMBER);
        Check.groundDue(d, "kind g 1 0;row aaa;", 2);
        Check.planDue(d, "wipe 2 0;", 1);
        Check.planFault(d, "wipe 2 1;", 7, NUMBER);
        Check.groundDue(d, "kind g 1 0;row a;row a;", 3);
        Check.planFault(d, "wipe 2 0;", 5, NUMBER);
        Check.planDue(d, "wipe 0 1;", 1);
        // One that comes back with an image is the GROUND now, too.
        Check.due("image", d.image(0), true);
        Check.groundDue(d, "", 0);
        Check.planFault(d, "wipe 0 1;", 5, NUMBER);
        Check.due("restore", d.restore(0), true);
        Check.planDue(d, "wipe 0 1;", 1);
    }

    /** "1 .. one that can't come (at it; the end: how many bytes there are ..)" */
    private static void endOfAText() {
        cutBehindEachToken(0, "kind", "g", "1", "0", "gives", "9", ";", "row", "aa", ";", "shade",
                "1", "0", "0", "7", ";", "water", "5", ";");
        cutBehindEachToken(1, "cloud", "0", "1", ";", "wind", "1", "2", ";", "air", "2", "3", "4",
                ";", "sun", "5", ";");
        cutBehindEachToken(2, "on", "1", ";", "wipe", "0", "0", ";", "cover", "0", "0", ";", "bare",
                "0", "0", ";");
    }

    private static void cutBehindEachToken(int which, String... tokens) {
        for (String blank : new String[] {"", " ", "\n \n"}) {
            SixDew d = new SixDew();
            Check.due("ground()", Check.ground(d, "kind g 1 0;row a;"), 2);
            StringBuilder text = new StringBuilder();
            int lines = 0;
            for (String token : tokens) {
                text.append(text.length() == 0 ? "" : " ").append(token);
                String cut = text + blank;
                Check.tape(d, Check.bytes(cut));
                int got = which == 0 ? d.ground() : which == 1 ? d.night(0) : d.plan();
                lines += token.equals(";") ? 1 : 0;
                boolean whole = token.equals(";");
                Check.due("cut " + cut, got, whole ? lines : -1 - cut.length());
                Check.due("fault of cut " + cut, d.fault(), whole ? 0 : TOKEN);
            }
        }
    }

    /** "FAULTS, the first along the text" */
    private static void firstAlongTheText() {
        SixDew d = new SixDew();
        Check.groundFault(d, "kind g 0 100;", 7, NUMBER);
        Check.groundFault(d, "kind g 1 100;water 1000;", 9, NUMBER);
        Check.groundFault(d, "kind g 1 0;kind g 0 .", 16, TWICE);
        Check.groundFault(d, "water 1;water 1000;kind g 0 0;", 8, TWICE);
        Check.groundFault(d, "water 1.;water 1;", 7, TOKEN);
        Check.nightFault(d, 0, "air 0 41 41;", 6, NUMBER);
        Check.nightFault(d, 0, "cloud 144 101;", 6, NUMBER);
        Check.planFault(d, "on 145 .", 3, NUMBER);
        Check.planFault(d, "on . 145", 3, TOKEN);
    }

    /** "of one TOKEN the least" */
    private static void leastOfOneToken() {
        SixDew d = new SixDew();
        // A ninth KIND behind a row: 3, not 4.
        Check.groundFault(d, kinds(8) + "row a;kind z 1 0;", 94, TWICE);
        // No WORD of a LINE, in a LINE that is one too many: 1, not 4.
        Check.nightFault(d, 0, "sun 0;".repeat(24) + "on 1;", 144, TOKEN);
        Check.nightFault(d, 0, "sun 0;".repeat(24) + ";", 144, TOKEN);
        Check.planFault(d, "on 1;".repeat(30) + "sun 1;", 150, TOKEN);
        Check.planFault(d, "on 1;".repeat(30) + "7", 150, TOKEN);
        // A NUMBER of four digits is no TOKEN: 1, not 2.
        Check.nightFault(d, 0, "sun 1440;", 4, TOKEN);
        // A WORD of 13 letters of no KIND, where the first row has 12: 1, not 2.
        Check.groundFault(d, kinds(1) + "row aaaaaaaaaaaa;row zzzzzzzzzzzzz;", 32, TOKEN);
    }

    /** "a text of at most 900 [400, 300] bytes"; "the most bytes told, if there are more .." */
    private static void mostBytes() {
        String[] texts = {"kind g 1 0;", "wind 0 1;", "on 1;"};
        int[] most = {900, 400, 300};
        for (int which = 0; which < 3; which++) {
            for (int bytes = most[which] - 2; bytes <= Math.min(940, most[which] + 41); bytes++) {
                boolean fits = bytes <= most[which];
                textDue(which, padded(texts[which], bytes), fits ? 1 : -1 - most[which], fits ? 0 : 1);
                textDue(which, " ".repeat(bytes), fits ? 0 : -1 - most[which], fits ? 0 : 1);
                // Not whole at its end: at the end, or at the most bytes.
                String cut = texts[which].substring(0, texts[which].length() - 1);
                textDue(which, padded(cut, bytes), -1 - Math.min(bytes, most[which]), 1);
                // The last byte is the text's ';'.
                textDue(which, padded(cut, bytes - 1) + ";", fits ? 1 : -1 - most[which], fits ? 0 : 1);
            }
            // "and no FAULT is ahead": a sign that is none, ahead of the edge, at it and behind it.
            for (int at = most[which] - 3; at <= most[which] + 3; at++) {
                String text = padded(padded(texts[which], at) + ".", 940);
                textDue(which, text, -1 - Math.min(at, most[which]), 1);
            }
        }
        SixDew d = new SixDew();
        Check.groundFault(d, padded("kind g 51 0;", 940), 7, NUMBER);
        Check.groundFault(d, padded("water 1;water 1;", 940), 8, TWICE);
        Check.groundFault(d, padded(kinds(9), 940), 88, MANY);
    }

    private static void textDue(int which, String text, int answer, int fault) {
        SixDew d = new SixDew();
        Check.tape(d, Check.bytes(text));
        int got = which == 0 ? d.ground() : which == 1 ? d.night(0) : d.plan();
        String call = "text " + which + " of " + text.length() + " bytes, " + text.trim();
        Check.due(call, got, answer);
        Check.due("fault of " + call, d.fault(), fault);
        Check.due("the tape behind it", d.count(6), 0);
    }

    /** "TOKENS that begin ahead of it are read whole" */
    private static void tokensReadWhole() {
        // A WORD of twelve that begins so far ahead of the edge is a NAME told twice, or not seen.
        String twice = "kind abcdefghijkl 1 0;kind";
        for (int at = 880; at <= 905; at++) {
            String text = padded(padded(twice, at) + "abcdefghijkl 1 0;", 940);
            textDue(0, text, -1 - Math.min(at, 900), at < 900 ? TWICE : TOKEN);
        }
        for (int at = 390; at <= 405; at++) {
            // 143 and 144: whole, they are as told and not.
            textDue(1, padded("sun", at) + "143;", at + 4 <= 400 ? 1 : -401, at + 4 <= 400 ? 0 : 1);
            textDue(1, padded("sun", at) + "144;", -1 - Math.min(at, 400), at < 400 ? NUMBER : TOKEN);
            textDue(1, padded("sun", at) + "1440;", -1 - Math.min(at, 400), TOKEN);
        }
        for (int at = 290; at <= 305; at++) {
            textDue(2, padded("on", at) + "144;", at + 4 <= 300 ? 1 : -301, at + 4 <= 300 ? 0 : 1);
            textDue(2, padded("on", at) + "145;", -1 - Math.min(at, 300), at < 300 ? NUMBER : TOKEN);
            textDue(2, padded("on 1;", at) + "xyz", -1 - Math.min(at, 300), TOKEN);
        }
    }

    /** "SKY of a CELL: 100 less N of each shade that is away R or less in X and in Y; 0 at least" */
    private static void skyOfACell() {
        String rows = "row aaaaaaaaaaaa;".repeat(12);
        for (int r = 0; r <= 9; r++) {
            SixDew d = new SixDew();
            Check.groundDue(d, "kind g 1 0;" + rows + "shade 5 6 " + r + " 60;", 14);
            for (int y = 0; y < 12; y++) {
                for (int x = 0; x < 12; x++) {
                    boolean hidden = x >= 5 - r && x <= 5 + r && y >= 6 - r && y <= 6 + r;
                    Check.due("SKY " + x + " " + y, Check.cell(d, x, y, 1), hidden ? 40 : 100);
                }
            }
        }
        int[][] sums = {{99, 1, 0}, {99, 2, 0}, {100, 100, 0}, {50, 49, 1}, {1, 1, 98}, {100, 1, 0}};
        for (int[] sum : sums) {
            SixDew d = new SixDew();
            Check.groundDue(d, "kind g 1 0;row a;shade 0 0 0 " + sum[0] + ";shade 0 0 9 " + sum[1]
                    + ";", 4);
            Check.due("SKY", Check.cell(d, 0, 0, 1), sum[2]);
        }
        SixDew d = new SixDew();
        Check.groundDue(d, "kind g 1 0;row a;" + "shade 0 0 0 100;".repeat(12), 14);
        Check.due("SKY", Check.cell(d, 0, 0, 1), 0);
        // Rows told behind the shade are hidden, too.
        Check.groundDue(d, "kind g 1 0;row a;shade 0 0 1 7;row a;row a;", 5);
        Check.due("SKY", Check.cell(d, 0, 1, 1), 93);
        Check.due("SKY", Check.cell(d, 0, 2, 1), 100);
    }

    /**
     * "as the latest LINE with T of this STEP or an earlier one tells (of like ones the later LINE;
     * without: 0, 0, 10, 8), SUN: 1 from the T of the first 'sun' on, else 0"
     */
    private static void skyOfASlot() {
        SixDew d = new SixDew();
        Check.nightDue(d, 0, "", 0);
        skyDue(d, 0, 0, 0, 0, 10, 8, 0);
        skyDue(d, 0, 143, 0, 0, 10, 8, 0);
        Check.nightDue(d, 1, "cloud 0 100;wind 0 9;air 0 40 40;sun 0;", 4);
        skyDue(d, 1, 0, 100, 9, 40, 40, 1);
        skyDue(d, 1, 143, 100, 9, 40, 40, 1);
        Check.nightDue(d, 2, "cloud 143 100;wind 143 9;air 143 0 0;sun 143;", 4);
        skyDue(d, 2, 142, 0, 0, 10, 8, 0);
        skyDue(d, 2, 143, 100, 9, 0, 0, 1);
        // Of like ones the later LINE; the first 'sun' stays the first.
        Check.nightDue(d, 5, "cloud 3 1;wind 3 1;air 3 1 1;sun 3;cloud 3 2;wind 3 2;air 3 2 3;sun 3;"
                + "air 4 5 6;cloud 5 0;sun 9;", 11);
        skyDue(d, 5, 2, 0, 0, 10, 8, 0);
        skyDue(d, 5, 3, 2, 2, 2, 3, 1);
        skyDue(d, 5, 4, 2, 2, 5, 6, 1);
        skyDue(d, 5, 5, 0, 2, 5, 6, 1);
        skyDue(d, 5, 9, 0, 2, 5, 6, 1);
        // "NONE: no such ones, an empty SLOT"
        int[][] none = {{3, 0, 0}, {4, 0, 0}, {-1, 0, 0}, {6, 0, 0}, {0, -1, 0}, {0, 144, 0},
            {0, 0, -1}, {0, 0, 5}, {Integer.MAX_VALUE, 0, 0}, {0, Integer.MIN_VALUE, 0}};
        for (int[] a : none) {
            Check.due("sky of none", d.sky(a[0], a[1], a[2]), -1);
        }
    }

    private static void skyDue(SixDew d, int slot, int t, int... told) {
        for (int what = 0; what < 5; what++) {
            Check.due("sky(" + slot + ", " + t + ", " + what + ")", d.sky(slot, t, what), told[what]);
        }
    }

    /** "how many it has; NONE, and none come, if it would have more than 940" */
    private static void tapeFull() {
        // Whatever is there ahead: up to 920 twenty more come, from 921 on none.
        for (int ahead = 0; ahead <= 940; ahead++) {
            SixDew d = new SixDew();
            for (int i = 0; i < 47; i++) {
                Check.due("feed", d.feed(0x20202020, 0x20202020, 0x20202020, 0x20202020, 0x20202020),
                        20 * i + 20);
            }
            Check.due("end", d.end(ahead), true);
            int got = d.feed(0x2e2e2e2e, 0x2e2e2e2e, 0x2e2e2e2e, 0x2e2e2e2e, 0x2e2e2e2e);
            Check.due("feed behind " + ahead, got, ahead <= 920 ? ahead + 20 : -1);
            Check.due("the tape behind it", d.count(6), ahead <= 920 ? ahead + 20 : ahead);
            // None came: the blanks are all that there is.
            int place = ahead <= 920 ? Math.min(ahead, 900) : 900;
            Check.due("ground()", d.ground(), -1 - place);
        }
        // "of each number the highest first": by their places all twenty bytes can be told apart.
        for (int at = 0; at < 20; at++) {
            SixDew d = new SixDew();
            int[] numbers = new int[5];
            for (int i = 0; i < 20; i++) {
                numbers[i / 4] |= (i == at ? '.' : ' ') << 24 - 8 * (i % 4);
            }
            Check.due("feed", d.feed(numbers[0], numbers[1], numbers[2], numbers[3], numbers[4]), 20);
            Check.due("ground()", d.ground(), -1 - at);
        }
        SixDew d = new SixDew();
        Check.due("feed", d.feed(-1, -1, -1, -1, -1), 20);
        Check.due("a byte 255 is no TOKEN", d.ground(), -1);
        Check.due("fault()", d.fault(), TOKEN);
    }

    /** "The tape has its first n bytes alone: true; false, if it has not so many, or n is below 0" */
    private static void tapeEnd() {
        SixDew d = new SixDew();
        Check.due("end(0) of an empty tape", d.end(0), true);
        Check.due("end(1) of an empty tape", d.end(1), false);
        Check.due("end(-1) of an empty tape", d.end(-1), false);
        for (int has = 0; has <= 40; has++) {
            for (int n = -2; n <= 43; n++) {
                d = new SixDew();
                d.feed(0, 0, 0, 0, 0);
                d.feed(0, 0, 0, 0, 0);
                Check.due("end", d.end(has), true);
                boolean may = n >= 0 && n <= has;
                Check.due("end(" + n + ") of " + has, d.end(n), may);
                Check.due("the tape behind it", d.count(6), may ? n : has);
            }
        }
        for (int n : new int[] {Integer.MIN_VALUE, Integer.MAX_VALUE, 941}) {
            Check.due("end(" + n + ")", d.end(n), false);
        }
        // What the tape has no more is not read.
        d = new SixDew();
        Check.tape(d, Check.bytes("water 1234"));
        Check.due("end(9)", d.end(9), true);
        Check.due("ground() of three digits", d.ground(), -10);
        Check.tape(d, Check.bytes("kind abcdefghijklm"));
        Check.due("end(17)", d.end(17), true);
        Check.due("ground() of twelve letters", d.ground(), -18);
        Check.tape(d, Check.bytes("water 7;."));
        Check.due("end(8)", d.end(8), true);
        Check.due("ground()", d.ground(), 1);
        // What comes next comes behind the first n.
        d = new SixDew();
        Check.tape(d, Check.bytes("water 12345"));
        Check.due("end(8)", d.end(8), true);
        Check.tape(d, Check.bytes(";"));
        Check.due("ground()", d.ground(), 1);
        Check.due("STOCK", d.count(4), 12);
    }

    /** "SixDew(): An empty GROUND; an empty tape"; "{ LINE ; }" of no LINE */
    private static void emptyTexts() {
        SixDew d = new SixDew();
        int[] counts = {0, 0, 0, 0, 500, 0, 0, 0};
        for (int turn = 0; turn < 2; turn++) {
            for (int what = 0; what < 8; what++) {
                Check.due("count(" + what + ")", d.count(what), counts[what]);
            }
            Check.due("cell of an empty GROUND", Check.cell(d, 0, 0, 0), Check.THROWS);
            Check.due("ground() of an empty tape", d.ground(), 0);
            Check.due("fault()", d.fault(), 0);
        }
        Check.due("plan() of an empty tape", d.plan(), 0);
        Check.due("fault()", d.fault(), 0);
        Check.due("night() of an empty tape", d.night(0), 0);
        Check.due("fault()", d.fault(), 0);
        Check.due("SLOTS with a NIGHT", d.count(5), 1);
        // KINDS without rows are a GROUND of no CELL.
        Check.groundDue(d, "kind g 1 0;", 1);
        Check.due("KINDS", d.count(2), 1);
        Check.due("columns", d.count(0), 0);
        Check.due("cell of no row", Check.cell(d, 0, 0, 0), Check.THROWS);
    }

    /**
     * "The kind of the FAULT of the latest ground(), night() or plan(); 0 without one and ahead of
     * any"
     */
    private static void faultOfTheLatest() {
        SixDew d = new SixDew();
        Check.due("fault ahead of any", d.fault(), 0);
        Check.groundFault(d, ".", 0, TOKEN);
        Check.nightFault(d, 0, "sun 144;", 4, NUMBER);
        Check.groundFault(d, "water 1;water 1;", 8, TWICE);
        Check.planFault(d, "on 1;".repeat(31), 150, MANY);
        Check.due("fault again", d.fault(), MANY);
        Check.due("plan()", d.plan(), 0);
        Check.due("fault without one", d.fault(), 0);
        Check.planFault(d, "on 0;", 3, NUMBER);
        Check.due("ground()", d.ground(), 0);
        Check.due("fault without one", d.fault(), 0);
        Check.groundFault(d, ".", 0, TOKEN);
        Check.due("night()", d.night(5), 0);
        Check.due("fault without one", d.fault(), 0);
    }

    /** "The tape (empty then, with a FAULT, too ..)"; "-1 less the place of a FAULT: it stays" */
    private static void faultStays() {
        SixDew d = Check.with("kind g 7 8;row a;water 9;", "wind 0 4;");
        Check.planDue(d, "on 3;", 1);
        Check.due("begin", d.begin(0), true);
        Check.due("on", d.on(5), 5);
        String ahead = Check.seen(d);
        Check.groundFault(d, "kind h 1 1 gives 9;row aa;row aa;water 8;shade", 46, TOKEN);
        Check.nightFault(d, 0, "wind 0 9;sun 1;air", 18, TOKEN);
        Check.nightFault(d, 1, "wind 0 9;sun 1;air", 18, TOKEN);
        Check.planFault(d, "on 9;on 9;on", 12, TOKEN);
        Check.due("plan() with no FAULT", Check.plan(d, "on 3;"), 1);
        Check.same("all is as it was", Check.seen(d), ahead);
        Check.due("go(1)", d.go(1), -1);
        Check.due("now(0)", d.now(0), 8);
    }

    /** "A new GROUND: all SLOTS empty, no RUN now, no PLAN" */
    private static void newGround() {
        for (String next : new String[] {"", "kind g 7 8;row a;water 9;"}) {
            SixDew d = Check.with("kind g 7 8;row a;water 9;", "wind 0 4;");
            for (int slot = 1; slot < 6; slot++) {
                Check.nightDue(d, slot, "", 0);
            }
            Check.due("SLOTS", d.count(5), 63);
            Check.planDue(d, "on 3;", 1);
            Check.due("begin", d.begin(0), true);
            Check.due("ground()", Check.ground(d, next) >= 0, true);
            Check.due("SLOTS", d.count(5), 0);
            Check.due("LINES of the PLAN", d.count(7), 0);
            Check.due("now(0)", d.now(0), -1);
            Check.due("on(1)", d.on(1), -1);
            Check.due("go(1)", d.go(1), -2);
            for (int slot = 0; slot < 6; slot++) {
                Check.due("begin of an empty SLOT", d.begin(slot), false);
                Check.due("sky of an empty SLOT", d.sky(slot, 0, 0), -1);
            }
        }
    }

    /** "NONE - 1000: no such SLOT" */
    private static void noSuchSlot() {
        for (int slot : new int[] {-1, 6, 7, -1000, 1000, Integer.MAX_VALUE, Integer.MIN_VALUE}) {
            SixDew d = new SixDew();
            Check.due("night(" + slot + ")", Check.night(d, slot, "sun 1;"), -1001);
            Check.due("SLOTS", d.count(5), 0);
            Check.due("night(" + slot + ") of a FAULT", Check.night(d, slot, "sun 144;"), -1001);
            Check.due("fault()", d.fault(), 0);
        }
        for (int slot = 0; slot < 6; slot++) {
            SixDew d = new SixDew();
            Check.nightDue(d, slot, "sun 1;", 1);
            Check.due("SLOTS", d.count(5), 1 << slot);
        }
    }

    /**
     * "Of a CELL: 0 KIND, 1 SKY, 2 HOLD, 3 GIVE, 4 what it gives. NoSuchElementException: no such
     * ones"
     */
    private static void noSuchCell() {
        SixDew d = new SixDew();
        Check.groundDue(d, "kind g 7 8 gives 9;row aaa;row aaa;", 3);
        int[] due = {0, 100, 7, 8, 9};
        for (int x = -1; x <= 3; x++) {
            for (int y = -1; y <= 2; y++) {
                for (int what = -1; what <= 5; what++) {
                    boolean there = x >= 0 && x < 3 && y >= 0 && y < 2 && what >= 0 && what < 5;
                    Check.due("cell(" + x + ", " + y + ", " + what + ")", Check.cell(d, x, y, what),
                            there ? due[what] : Check.THROWS);
                }
            }
        }
        int[] far = {Integer.MIN_VALUE, Integer.MAX_VALUE, 12, 144};
        for (int n : far) {
            Check.due("cell of none", Check.cell(d, n, 0, 0), Check.THROWS);
            Check.due("cell of none", Check.cell(d, 0, n, 0), Check.THROWS);
            Check.due("cell of none", Check.cell(d, 0, 0, n), Check.THROWS);
        }
    }
}
