import java.nio.charset.StandardCharsets;
import java.util.NoSuchElementException;

/** What the tests share: counting answers that are not due, and bringing texts to the tape. */
final class Check {
    /** What a call that throws NoSuchElementException counts as. */
    static final long THROWS = Long.MIN_VALUE;

    private static int wrong = 0;

    private Check() {
    }

    static void due(String call, long got, long want) {
        if (got != want) {
            wrong++;
            System.out.println(call + " answered " + got + ", due is " + want);
        }
    }

    static void due(String call, boolean got, boolean want) {
        due(call, got ? 1 : 0, want ? 1 : 0);
    }

    static void same(String call, String got, String want) {
        if (!got.equals(want)) {
            wrong++;
            System.out.println(call + ": there is " + got + ", due is " + want);
        }
    }

    static void finish(String test) {
        if (wrong > 0) {
            System.out.println(test + ": " + wrong + " answers are not as due");
            System.exit(1);
        }
        System.out.println(test + ": all answers are as due");
    }

    static int wrongSoFar() {
        return wrong;
    }

    static byte[] bytes(String text) {
        return text.getBytes(StandardCharsets.ISO_8859_1);
    }

    /** Brings bytes behind the tape. */
    static void tape(SixDew d, byte[] bytes) {
        int ahead = d.count(6);
        for (int i = 0; i < bytes.length; i += 20) {
            d.feed(four(bytes, i), four(bytes, i + 4), four(bytes, i + 8), four(bytes, i + 12),
                    four(bytes, i + 16));
        }
        due("end for the tape's text", d.end(ahead + bytes.length), true);
    }

    static int four(byte[] bytes, int from) {
        int number = 0;
        for (int i = from; i < from + 4; i++) {
            number = number << 8 | (i < bytes.length ? bytes[i] & 255 : 0);
        }
        return number;
    }

    static void tape(SixDew d, int... bytes) {
        byte[] all = new byte[bytes.length];
        for (int i = 0; i < bytes.length; i++) {
            all[i] = (byte) bytes[i];
        }
        tape(d, all);
    }

    static int ground(SixDew d, String text) {
        tape(d, bytes(text));
        return d.ground();
    }

    static int night(SixDew d, int slot, String text) {
        tape(d, bytes(text));
        return d.night(slot);
    }

    static int plan(SixDew d, String text) {
        tape(d, bytes(text));
        return d.plan();
    }

    /** A new object with a GROUND and a NIGHT in SLOT 0. */
    static SixDew with(String ground, String night) {
        SixDew d = new SixDew();
        due("ground() of " + ground, ground(d, ground) >= 0, true);
        due("night() of " + night, night(d, 0, night) >= 0, true);
        return d;
    }

    static void groundDue(SixDew d, String text, int lines) {
        due("ground() of " + text, ground(d, text), lines);
        due("fault() behind it", d.fault(), 0);
    }

    static void nightDue(SixDew d, int slot, String text, int lines) {
        due("night(" + slot + ") of " + text, night(d, slot, text), lines);
        due("fault() behind it", d.fault(), 0);
    }

    static void planDue(SixDew d, String text, int lines) {
        due("plan() of " + text, plan(d, text), lines);
        due("fault() behind it", d.fault(), 0);
    }

    static void groundFault(SixDew d, String text, int place, int kind) {
        due("ground() of " + text, ground(d, text), -1 - place);
        due("fault() of " + text, d.fault(), kind);
        due("the tape behind it", d.count(6), 0);
    }

    static void nightFault(SixDew d, int slot, String text, int place, int kind) {
        due("night(" + slot + ") of " + text, night(d, slot, text), -1 - place);
        due("fault() of " + text, d.fault(), kind);
        due("the tape behind it", d.count(6), 0);
    }

    static void planFault(SixDew d, String text, int place, int kind) {
        due("plan() of " + text, plan(d, text), -1 - place);
        due("fault() of " + text, d.fault(), kind);
        due("the tape behind it", d.count(6), 0);
    }

    static long cell(SixDew d, int x, int y, int what) {
        try {
            return d.cell(x, y, what);
        } catch (NoSuchElementException e) {
            return THROWS;
        }
    }

    static long is(SixDew d, int x, int y, int what) {
        try {
            return d.is(x, y, what);
        } catch (NoSuchElementException e) {
            return THROWS;
        }
    }

    /** All that can be seen of an object without changing it, but for its tape's bytes. */
    static String seen(SixDew d) {
        return kept(d) + "; told " + toldLast(d) + "; fault " + d.fault() + "; tape " + d.count(6);
    }

    /** GROUND, NIGHTS, PLAN and RUN. */
    static String kept(SixDew d) {
        StringBuilder s = new StringBuilder("counts");
        for (int what = 0; what < 8; what++) {
            s.append(' ').append(what == 6 ? 0 : d.count(what));
        }
        s.append("; now");
        for (int what = 0; what < 5; what++) {
            s.append(' ').append(d.now(what));
        }
        s.append("; cells");
        for (int c = 0; c < d.count(0) * d.count(1); c++) {
            int x = c % d.count(0);
            int y = c / d.count(0);
            for (int what = 0; what < 5; what++) {
                s.append(what == 0 ? ' ' : '/').append(cell(d, x, y, what));
            }
            s.append('/').append(is(d, x, y, 0)).append('/').append(is(d, x, y, 1));
        }
        for (int slot = 0; slot < 6; slot += 3) {
            for (int t = 0; t < 144; t += 71) {
                for (int what = 0; what < 5; what++) {
                    s.append(what == 0 ? "; sky " : "/").append(d.sky(slot, t, what));
                }
            }
        }
        return s.toString();
    }

    /** What went(), cameAt() and drawnBy() tell. */
    static String toldLast(SixDew d) {
        StringBuilder s = new StringBuilder();
        for (int what = 0; what < 5; what++) {
            s.append(d.went(what)).append(' ');
        }
        s.append(d.cameAt(0)).append(' ').append(d.cameAt(1)).append(' ').append(d.drawnBy(0));
        return s.append(' ').append(d.drawnBy(1)).append(' ').append(d.drawnBy(2)).toString();
    }

    static String times(String text, int n) {
        return text.repeat(n);
    }
}
