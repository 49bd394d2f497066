import java.util.Random;

/** Promises 1 to 43 together: runs of calls by fixed seeds, each answer compared with Model's. */
public final class RandomRunsTest {
    private static final String[] CELL_CALLS = {"begins", "gone", "wet", "spell", "frost", "roof",
        "catcher"};

    private final Random random;
    private final SixDew d = new SixDew();
    private final Model model = new Model();
    private final StringBuilder told = new StringBuilder();
    private int columns = 0;
    private int rows = 0;
    private int calls = 0;

    private RandomRunsTest(long seed) {
        random = new Random(seed);
        told.append("run ").append(seed).append(':');
    }

    public static void main(String[] args) {
        int runs = args.length > 0 ? Integer.parseInt(args[0]) : 250;
        for (int seed = 1; seed <= runs && Check.wrongSoFar() == 0; seed++) {
            new RandomRunsTest(seed).go();
        }
        Check.finish("RandomRunsTest");
    }

    private void go() {
        while (calls < 480 && Check.wrongSoFar() == 0) {
            if (calls < 2 || any(90) == 0) {
                newGround();
                for (int slot = 0; slot < 3; slot++) {
                    newNight(slot);
                }
            }
            someCall();
        }
    }

    private int any(int n) {
        return random.nextInt(n);
    }

    /** From least - 1 to most + 1, the ends seldom. */
    private int about(int least, int most) {
        if (any(25) == 0) {
            return any(2) == 0 ? least - 1 : most + 1;
        }
        return least + any(most - least + 1);
    }

    private void same(String name, int... a) {
        StringBuilder call = new StringBuilder(name).append('(');
        for (int i = 0; i < a.length; i++) {
            call.append(i == 0 ? "" : ", ").append(a[i]);
        }
        call.append(')');
        told.append('\n').append(call);
        calls++;
        long got = Faces.call(d, name, a);
        long want = model.call(name, a);
        if (got != want) {
            System.out.println(told);
        }
        Check.due(call.toString(), got, want);
    }

    private void text(String text) {
        told.append("\n[").append(text).append(']');
        byte[] bytes = Check.bytes(text);
        for (int i = 0; i < bytes.length; i += 20) {
            same("feed", Check.four(bytes, i), Check.four(bytes, i + 4), Check.four(bytes, i + 8),
                    Check.four(bytes, i + 12), Check.four(bytes, i + 16));
        }
        same("end", bytes.length);
    }

    /** Made longer by blanks, so that it ends about the most bytes told, a TOKEN across the edge. */
    private String stretched(String text, int most) {
        String[] ends = {"", "x", ";", "water 5;", "sun 143;", "on 1;", "1234", "abc", "\n", " 7"};
        int blanks = most - text.length() + any(18) - 14;
        return text + " ".repeat(Math.max(0, blanks)) + ends[any(ends.length)];
    }

    private String spoiled(String text, int most) {
        if (any(12) == 0) {
            return stretched(text, most);
        }
        if (any(7) != 0 || text.isEmpty()) {
            return text;
        }
        int at = any(text.length());
        String[] others = {"", ";", " ", "1", "x", "999", "kind", ".", "\n", "on ", "0", ";;"};
        String other = others[any(others.length)];
        return text.substring(0, at) + other + text.substring(Math.min(text.length(), at + any(3)));
    }

    private void newGround() {
        StringBuilder s = new StringBuilder();
        int kinds = 1 + any(any(6) == 0 ? 8 : 3);
        columns = 1 + any(any(8) == 0 ? 12 : 4);
        rows = 1 + any(any(8) == 0 ? 12 : 4);
        for (int k = 0; k < kinds; k++) {
            s.append("kind ").append((char) ('p' + k)).append(' ').append(1 + any(50)).append(' ')
                    .append(any(3) == 0 ? 0 : any(60));
            s.append(any(4) == 0 ? " gives " + (1 + any(9)) : "").append(';');
        }
        for (int y = 0; y < rows; y++) {
            s.append(any(2) == 0 ? "row " : "\n row  ");
            for (int x = 0; x < columns; x++) {
                s.append((char) ('a' + any(kinds)));
            }
            s.append(';');
            if (any(4) == 0) {
                s.append("shade ").append(any(columns)).append(' ').append(any(y + 1)).append(' ')
                        .append(any(any(3) == 0 ? 10 : 2)).append(' ').append(1 + any(100))
                        .append(" ;");
            }
        }
        if (any(2) == 0) {
            s.append("water ").append(any(any(2) == 0 ? 40 : 1000)).append(';');
        }
        same("count", 6);
        same("end", 0);
        text(spoiled(s.toString(), 900));
        same("ground");
        same("fault");
        columns = (int) model.call("count", 0);
        rows = (int) model.call("count", 1);
    }

    private void newNight(int slot) {
        StringBuilder s = new StringBuilder();
        int t = 0;
        int lines = any(8);
        for (int i = 0; i < lines; i++) {
            t = Math.min(143, t + any(40));
            switch (any(5)) {
                case 0 -> s.append("cloud ").append(t).append(' ').append(any(101));
                case 1 -> s.append("wind ").append(t).append(' ').append(any(any(2) == 0 ? 3 : 10));
                case 2 -> s.append("sun ").append(t);
                default -> s.append("air ").append(t).append(' ').append(any(25)).append(' ')
                        .append(any(14));
            }
            s.append("; ");
        }
        same("end", 0);
        text(spoiled(s.toString(), 400));
        same("night", slot);
        same("fault");
    }

    private void newPlan() {
        StringBuilder s = new StringBuilder();
        int lines = any(7);
        for (int i = 0; i < lines; i++) {
            if (any(2) == 0) {
                s.append("on ").append(1 + any(any(9) == 0 ? 144 : 20));
            } else {
                s.append(new String[] {"wipe ", "cover ", "bare "}[any(3)])
                        .append(any(Math.max(1, columns))).append(' ')
                        .append(any(Math.max(1, rows)));
            }
            s.append(';');
        }
        same("end", 0);
        text(spoiled(s.toString(), 300));
        same("plan");
        same("fault");
    }

    private void bytes(int n, int least, int most) {
        StringBuilder s = new StringBuilder();
        for (int i = 0; i < n; i++) {
            s.append((char) (least + any(most - least + 1)));
        }
        same("end", 0);
        text(s.toString());
    }

    /** A LAWN that is so, but for some CELLS not seen and seldom one that is not. */
    private void lawnOf(int slot) {
        StringBuilder s = new StringBuilder();
        int unseen = any(3);
        for (int y = 0; y < rows; y++) {
            for (int x = 0; x < columns; x++) {
                int looks = (int) Math.min(1, Math.max(0, model.call("much", slot, x, y, 71)));
                s.append((char) (any(3) < unseen ? 2 : any(40) == 0 ? any(4) : looks));
            }
        }
        same("end", 0);
        text(s.toString());
    }

    private void triedCells() {
        StringBuilder s = new StringBuilder();
        int n = 1 + any(any(5) == 0 ? 10 : 3);
        int first = any(columns * rows + 1);
        for (int i = 0; i < n; i++) {
            int c = any(15) == 0 ? first : first + i;
            s.append((char) (c % Math.max(1, columns)))
                    .append((char) (c / Math.max(1, columns) % Math.max(1, rows)));
        }
        same("end", 0);
        text(any(20) == 0 ? s + "a" : s.toString());
    }

    private void someCall() {
        int slot = any(12) == 0 ? about(-1, 6) : any(3);
        int x = about(0, columns - 1 < 0 ? 0 : columns - 1);
        int y = about(0, rows - 1 < 0 ? 0 : rows - 1);
        int t = about(0, 143);
        switch (any(30)) {
            case 0 -> newNight(slot);
            case 1 -> newPlan();
            case 2 -> same("begin", slot);
            case 3 -> same("on", any(4) == 0 ? about(0, 144) : any(30));
            case 4 -> same("is", x, y, about(0, 1));
            case 5 -> same("now", about(0, 4));
            case 6 -> same("go", about(0, 1));
            case 7 -> same("went", about(0, 4));
            case 8 -> same("image", about(0, 1));
            case 9 -> same("restore", about(0, 1));
            case 10 -> same("count", about(0, 7));
            case 11 -> same("cell", x, y, about(0, 4));
            case 12 -> same("sky", slot, t, about(0, 4));
            case 13 -> same("much", slot, x, y, t);
            case 14 -> same("where", slot, t, any(3) == 0 ? about(1, 9999) : 1 + any(40));
            case 15 -> same("sick", slot, about(1, 144));
            case 16 -> same("slugs", slot, t, x, y);
            case 17 -> same("walk", slot, t, about(0, Math.max(0, columns * rows - 1)),
                    about(0, Math.max(0, columns * rows - 1)));
            case 18 -> same("unlike", slot, about(0, 5));
            case 19 -> same("bench", slot, about(0, 100));
            case 20 -> {
                lawnOf(slot);
                same("lawn");
            }
            case 21 -> {
                lawnOf(slot);
                same("clouded", slot);
            }
            case 22 -> {
                int much = (int) model.call("much", slot, x, y, 71);
                same("came", slot, x, y, any(2) == 0 ? Math.max(0, much) : any(20));
                same("cameAt", about(0, 1));
            }
            case 23 -> same("driest", slot, 1 + any(3));
            case 24 -> same("story", slot, x, y, t, about(0, 2));
            case 25 -> same("part", slot, x, y, about(0, 2), about(0, 2));
            case 26 -> {
                triedCells();
                same("tries", slot, t);
            }
            case 27 -> same("hay", slot, any(3) == 0 ? about(0, 9999) : any(30));
            case 28 -> {
                same("drawn", slot, x, y, about(1, any(4) == 0 ? 30 : 5), random.nextInt());
                same("drawnBy", about(0, 2));
            }
            default -> same(CELL_CALLS[any(CELL_CALLS.length)], slot, x, y);
        }
    }
}
