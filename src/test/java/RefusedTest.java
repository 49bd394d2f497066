/**
 * Calls that are refused (NONE, -2, false, or a throw) leave all that can be seen as it was, and
 * so do questions that are answered: "A call that throws changes nothing", "the RUN staying".
 */
public final class RefusedTest {
    private static final int MOST = Integer.MAX_VALUE;
    private static final int LEAST = Integer.MIN_VALUE;
    private static final String TAPE = "water 7;kind z 3 4;";

    private RefusedTest() {
    }

    public static void main(String[] args) {
        tapeCalls();
        callsOfTheRun();
        questionsOfNone();
        questionsByNumbers();
        textQuestions();
        throwingCalls();
        questionsAnswered();
        emptyObject();
        Check.finish("RefusedTest");
    }

    /** Something of everything: a RUN going on, all told last told, a PLAN, an image, a tape. */
    private static SixDew full() {
        SixDew d = Check.with("kind g 10 10 gives 1;kind f 20 3;row aba;shade 1 0 0 30;water 60;",
                "air 0 10 11;");
        Check.nightDue(d, 3, "cloud 5 50;wind 9 1;sun 72;", 3);
        Check.planDue(d, "on 2;cover 0 0;wipe 1 0;", 3);
        Check.due("begin", d.begin(0), true);
        Check.due("go(1)", d.go(1), -1);
        Check.due("came", d.came(0, 0, 0, 0) >= 0, true);
        Check.due("drawn", d.drawn(0, 0, 0, 2, 2) >= 0, true);
        Check.due("image(0)", d.image(0), true);
        Check.due("on", d.on(3), 3);
        Check.planFault(d, "on 0;", 3, 2);
        Check.tape(d, Check.bytes(TAPE));
        return d;
    }

    /** A call that is refused: nothing that can be seen changes, nor do the tape's bytes. */
    private static void refused(String call, long answer, int... args) {
        SixDew d = full();
        String ahead = Check.seen(d);
        Check.due(call + " refused", Faces.call(d, call, args), answer);
        stays(call, d, ahead);
    }

    private static void stays(String call, SixDew d, String ahead) {
        Check.same("all is as it was behind " + call, Check.seen(d), ahead);
        Check.due("the image is kept behind " + call, d.restore(0), true);
        Check.due("STEPS of the image behind " + call, d.now(0), 2);
        Check.due("the tape's LINES behind " + call, d.ground(), 2);
        Check.due("the tape's STOCK behind " + call, d.count(4), 7);
    }

    private static void tapeCalls() {
        for (int n : new int[] {-1, LEAST, TAPE.length() + 1, 940, MOST}) {
            refused("end", 0, n);
        }
        // A feed is refused on a full tape alone.
        SixDew d = full();
        for (int n = TAPE.length(); n <= 920; n += 20) {
            Check.due("feed", d.feed(0x20202020, 0x20202020, 0x20202020, 0x20202020, 0x20202020), n
                    + 20);
        }
        String ahead = Check.seen(d);
        Check.due("feed refused", d.feed(0, 0, 0, 0, 0), -1);
        Check.same("all is as it was", Check.seen(d), ahead);
        Check.due("end", d.end(900), true);
        Check.due("the tape's LINES", d.ground(), 2);
    }

    private static void callsOfTheRun() {
        for (int slot : new int[] {-1, 1, 2, 4, 5, 6, MOST, LEAST}) {
            refused("begin", 0, slot);
            refused("sky", -1, slot, 0, 0);
        }
        for (int n : new int[] {-1, 145, MOST, LEAST}) {
            refused("on", -1, n);
            refused("now", -1, n);
            refused("went", -1, n);
            refused("count", -1, n);
            refused("go", -2, n);
            refused("image", 0, n);
            refused("restore", 0, n);
            refused("cameAt", -1, n);
            refused("drawnBy", -1, n);
            refused("sky", -1, 0, n, 0);
            refused("sky", -1, 0, 0, n);
        }
        refused("restore", 0, 1);
        refused("go", -2, 2);
        refused("now", -1, 5);
        refused("went", -1, 5);
        refused("count", -1, 8);
        refused("cameAt", -1, 2);
        refused("drawnBy", -1, 3);
        refused("sky", -1, 0, 0, 5);
        refused("image", 0, 2);
    }

    private static void questionsOfNone() {
        int[][] none = {{-1, 0, 0}, {1, 0, 0}, {6, 0, 0}, {MOST, 0, 0}, {LEAST, 0, 0}, {0, -1, 0},
            {0, 3, 0}, {0, 0, -1}, {0, 0, 1}, {0, MOST, 0}, {0, 0, LEAST}};
        for (int[] a : none) {
            for (String call : new String[] {"begins", "gone", "wet", "spell", "frost", "roof",
                    "catcher"}) {
                refused(call, -1, a);
            }
            refused("much", -1, a[0], a[1], a[2], 9);
            refused("slugs", -1, a[0], 9, a[1], a[2]);
            refused("came", -1, a[0], a[1], a[2], 0);
            refused("story", -1, a[0], a[1], a[2], 9, 1);
            refused("part", -1, a[0], a[1], a[2], 0, 1);
            refused("drawn", -1, a[0], a[1], a[2], 3, 9);
        }
        for (int slot : new int[] {-1, 1, 6, MOST, LEAST}) {
            refused("where", -1, slot, 9, 1);
            refused("sick", -1, slot, 1);
            refused("walk", -1, slot, 9, 0, 1);
            refused("unlike", -1, slot, 0);
            refused("unlike", -1, 0, slot);
            refused("bench", -1, slot, 50);
            refused("driest", -1, slot, 1);
            refused("hay", -1, slot, 9);
        }
    }

    private static void questionsByNumbers() {
        for (int t : new int[] {-1, 144, MOST, LEAST}) {
            refused("much", -1, 0, 0, 0, t);
            refused("where", -1, 0, t, 1);
            refused("slugs", -1, 0, t, 0, 0);
            refused("walk", -1, 0, t, 0, 1);
            refused("story", -1, 0, 0, 0, t, 1);
        }
        for (int n : new int[] {-1, 10000, MOST, LEAST}) {
            refused("where", -1, 0, 9, n);
            refused("hay", -1, 0, n);
            refused("sick", -1, 0, n);
            refused("walk", -1, 0, 9, n, 0);
            refused("walk", -1, 0, 9, 0, n);
            refused("bench", -1, 0, n);
            refused("driest", -1, 0, n);
            refused("story", -1, 0, 0, 0, 9, n);
            refused("part", -1, 0, 0, 0, n, 1);
            refused("part", -1, 0, 0, 0, 1, n);
            refused("drawn", -1, 0, 0, 0, n, 9);
        }
        refused("where", -1, 0, 9, 0);
        refused("sick", -1, 0, 0);
        refused("sick", -1, 0, 145);
        refused("walk", -1, 0, 9, 3, 0);
        refused("walk", -1, 0, 9, 0, 3);
        refused("bench", -1, 0, 101);
        refused("driest", -1, 0, 0);
        refused("driest", -1, 0, 2);
        refused("driest", -1, 0, 13);
        refused("story", -1, 0, 0, 0, 9, 3);
        refused("part", -1, 0, 0, 0, 3, 1);
        refused("drawn", -1, 0, 0, 0, 0, 9);
        refused("drawn", -1, 0, 0, 0, 31, 9);
    }

    /** Calls that take the tape: it is empty then, and all else is as it was. */
    private static void textQuestions() {
        for (String call : new String[] {"lawn", "clouded", "tries"}) {
            SixDew d = full();
            String ahead = Check.seen(d);
            Check.due(call + " refused", Faces.call(d, call, 0, 9), -1);
            Check.due("the tape behind " + call, d.count(6), 0);
            Check.tape(d, Check.bytes(TAPE));
            stays(call, d, ahead);
        }
        for (int slot : new int[] {-1, 1, 6, MOST, LEAST}) {
            for (String call : new String[] {"clouded", "tries"}) {
                SixDew d = full();
                String ahead = Check.seen(d);
                Check.due("end(0)", d.end(0), true);
                Check.tape(d, call.equals("tries") ? new byte[2] : new byte[3]);
                Check.due(call + " of no NIGHT", Faces.call(d, call, slot, 9), -1);
                Check.due("the tape behind " + call, d.count(6), 0);
                Check.tape(d, Check.bytes(TAPE));
                stays(call, d, ahead);
            }
        }
        // A FAULT, or no such SLOT, is told by fault() and changes nothing else.
        for (String call : new String[] {"ground", "night", "plan"}) {
            SixDew d = full();
            Check.due("end(0)", d.end(0), true);
            Check.tape(d, Check.bytes("."));
            String kept = Check.kept(d);
            String told = Check.toldLast(d);
            Check.due(call + " refused", Faces.call(d, call, 0), -1);
            Check.due("fault() behind " + call, d.fault(), 1);
            Check.due("the tape behind " + call, d.count(6), 0);
            Check.same("all is kept behind " + call, Check.kept(d), kept);
            Check.same("all told last is so behind " + call, Check.toldLast(d), told);
        }
        SixDew d = full();
        Check.due("night(6)", d.night(6), -1001);
        Check.due("SLOTS", d.count(5), 9);
        Check.due("now(0)", d.now(0), 5);
    }

    /** "NoSuchElementException"; "A call that throws changes nothing" */
    private static void throwingCalls() {
        int[][] none = {{-1, 0, 0}, {3, 0, 0}, {0, -1, 0}, {0, 1, 0}, {0, 0, -1}, {0, 0, 5},
            {MOST, 0, 0}, {LEAST, 0, 0}, {0, MOST, 0}, {0, LEAST, 0}, {0, 0, MOST}, {0, 0, LEAST}};
        for (int[] a : none) {
            refused("cell", Check.THROWS, a);
            refused("is", Check.THROWS, a);
        }
        refused("is", Check.THROWS, 0, 0, 2);
        SixDew d = Check.with("kind g 10 10;row a;", "");
        String ahead = Check.seen(d);
        Check.due("is without a RUN", Check.is(d, 0, 0, 0), Check.THROWS);
        Check.same("all is as it was", Check.seen(d), ahead);
    }

    /** What is asked of a RUN of a SLOT leaves the RUN now, and all else, as it is. */
    private static void questionsAnswered() {
        Object[][] asked = {{"much", 0, 0, 0, 143}, {"where", 0, 143, 1}, {"begins", 0, 0, 0},
            {"gone", 0, 0, 0}, {"wet", 0, 0, 0}, {"spell", 0, 0, 0}, {"sick", 0, 1}, {"frost", 0, 0, 0},
            {"slugs", 0, 143, 0, 0}, {"walk", 0, 143, 0, 2}, {"unlike", 0, 3}, {"bench", 0, 50},
            {"roof", 0, 0, 0}, {"driest", 0, 1}, {"catcher", 0, 2, 0}, {"story", 0, 0, 0, 143, 2},
            {"part", 0, 0, 0, 1, 2}, {"hay", 0, 0}, {"cell", 2, 0, 4}, {"sky", 3, 143, 4},
            {"is", 2, 0, 1}, {"now", 4}, {"went", 4}, {"cameAt", 1}, {"drawnBy", 2}, {"count", 7},
            {"fault"}, {"go", -1}};
        for (Object[] call : asked) {
            SixDew d = full();
            int[] args = new int[call.length - 1];
            for (int i = 0; i < args.length; i++) {
                args[i] = (Integer) call[i + 1];
            }
            String ahead = Check.seen(d);
            Faces.call(d, (String) call[0], args);
            stays((String) call[0], d, ahead);
        }
        // came() and drawn() tell more by cameAt() and drawnBy(), and go(0) by went(), alone.
        SixDew d = full();
        String run = runSeen(d);
        Check.due("came", d.came(3, 0, 0, 0) >= 0, true);
        Check.due("drawn", d.drawn(3, 1, 0, 30, 1) >= 0, true);
        Check.due("go(0)", d.go(0), 1);
        Check.same("the RUN is as it was", runSeen(d), run);
    }

    private static String runSeen(SixDew d) {
        StringBuilder s = new StringBuilder();
        for (int what = 0; what < 5; what++) {
            s.append(d.now(what)).append(' ');
        }
        for (int x = 0; x < 3; x++) {
            s.append(Check.is(d, x, 0, 0)).append('/').append(Check.is(d, x, 0, 1)).append(' ');
        }
        return s.toString();
    }

    /** A new object refuses all that needs a CELL, a NIGHT or a RUN, and stays empty. */
    private static void emptyObject() {
        String[] ofFive = {"much", "begins", "gone", "wet", "spell", "sick", "frost", "slugs",
            "walk", "unlike", "bench", "came", "roof", "driest", "catcher", "story", "part", "tries",
            "drawn", "where", "sky", "clouded", "on", "now", "went", "cameAt", "drawnBy"};
        for (String call : ofFive) {
            SixDew d = new SixDew();
            String ahead = Check.seen(d);
            Check.due(call + " of a new object", Faces.call(d, call, 0, 0, 0, 1, 1), -1);
            Check.same("all is as it was behind " + call, Check.seen(d), ahead);
        }
        SixDew d = new SixDew();
        String ahead = Check.seen(d);
        Check.due("hay of a new object", d.hay(0, 0), -1);
        Check.due("begin of a new object", d.begin(0), false);
        Check.due("go of a new object", d.go(0), -2);
        Check.due("restore of a new object", d.restore(0), false);
        Check.due("lawn of a new object", d.lawn(), 0);
        Check.due("cell of a new object", Check.cell(d, 0, 0, 0), Check.THROWS);
        Check.due("is of a new object", Check.is(d, 0, 0, 0), Check.THROWS);
        Check.due("end(1) of a new object", d.end(1), false);
        Check.same("all is as it was", Check.seen(d), ahead);
    }
}
