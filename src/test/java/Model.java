import java.util.ArrayList;
import java.util.Arrays;
import java.util.List;
import java.util.Set;
import java.util.TreeMap;

/**
 * The document said once more, in the slowest and plainest way, to compare SixDew with: a RUN is
 * the list of what was done in it, and is gone through from its start for each question.
 */
final class Model {
    static final long THROWS = Check.THROWS;
    private static final Set<String> TOLD_WORDS = Set.of("kind", "gives", "row", "shade", "water",
            "cloud", "wind", "air", "sun", "on", "wipe", "cover", "bare");

    record Token(char sort, String text, int at) {
        int number() {
            return Integer.parseInt(text);
        }
    }

    record Kind(String name, int hold, int give, int gift) { }

    record Shade(int x, int y, int r, int n) { }

    record Line(String word, int a, int b, int c) { }

    static final class Ground {
        final List<Kind> kinds = new ArrayList<>();
        final List<String> rows = new ArrayList<>();
        final List<Shade> shades = new ArrayList<>();
        int stock = 500;
        int lines;

        int columns() {
            return rows.isEmpty() ? 0 : rows.get(0).length();
        }

        int size() {
            return columns() * rows.size();
        }

        boolean has(int x, int y) {
            return x >= 0 && y >= 0 && x < columns() && y < rows.size();
        }

        int kind(int c) {
            return rows.get(c / columns()).charAt(c % columns()) - 'a';
        }

        int sky(int c) {
            int sky = 100;
            for (Shade s : shades) {
                if (Math.abs(s.x - c % columns()) <= s.r && Math.abs(s.y - c / columns()) <= s.r) {
                    sky -= s.n;
                }
            }
            return Math.max(sky, 0);
        }
    }

    /** A deed in a RUN: 's' a STEP, 'w' wipe, 'c' cover, 'b' bare. */
    record Deed(char sort, int cell) { }

    /** How a RUN is other than told. */
    static final class Change {
        int story = 0;
        int cloudedHours = 0;
        int cell = -1;
        int less = 0;
        int lessFrom = 0;
        int kind = -1;
    }

    static final class Seen {
        int[] water;
        int[] warmth;
        boolean[] covered;
        int stock;
        int given;
        int steps;
        final List<int[]> waterBehind = new ArrayList<>();
        final List<int[]> warmthBehind = new ArrayList<>();
    }

    static final class State {
        Ground ground = new Ground();
        List<List<Line>> nights = new ArrayList<>(Arrays.asList(null, null, null, null, null, null));
        List<Line> plan = List.of();
        List<Line> runNight = null;
        List<Deed> deeds = List.of();

        State copy() {
            State s = new State();
            s.ground = ground;
            s.nights = new ArrayList<>(nights);
            s.plan = plan;
            s.runNight = runNight;
            s.deeds = new ArrayList<>(deeds);
            return s;
        }
    }

    private static final class FaultFound extends RuntimeException {
        private static final long serialVersionUID = 1L;
        final int kind;
        final int at;

        FaultFound(int kind, int at) {
            this.kind = kind;
            this.at = at;
        }
    }

    private final List<Integer> tape = new ArrayList<>();
    private State state = new State();
    private final State[] images = new State[2];
    private int fault = 0;
    private int[] went = null;
    private List<Integer> came = List.of();
    private int[] drawn = null;

    // ---- texts ----

    private List<Token> tokens = new ArrayList<>();
    private int token;

    private void scan(int most) {
        StringBuilder all = new StringBuilder();
        for (int b : tape) {
            all.append((char) b);
        }
        tape.clear();
        tokens = new ArrayList<>();
        token = 0;
        String s = all.toString();
        int i = 0;
        while (i < s.length()) {
            char c = s.charAt(i);
            if (c == ' ' || c == '\n') {
                i++;
                continue;
            }
            int j = i + 1;
            if (String.valueOf(c).matches("[a-z0-9]")) {
                while (j < s.length() && s.substring(j, j + 1).matches("[a-z0-9]")) {
                    j++;
                }
            }
            String t = s.substring(i, j);
            char sort = t.matches("[a-z]{1,12}") ? 'w' : t.matches("[0-9]{1,3}") ? 'n'
                    : t.equals(";") ? ';' : '?';
            if (i >= most) {
                break;
            }
            tokens.add(new Token(sort, t, i));
            i = j;
        }
        if (s.length() > most) {
            tokens.add(new Token('?', "", most));
        } else {
            tokens.add(new Token('e', "", s.length()));
        }
    }

    private Token take(char sort) {
        Token t = tokens.get(token++);
        if (t.sort != sort) {
            throw new FaultFound(1, t.at);
        }
        return t;
    }

    private int takeNumber(int least, int most) {
        Token t = take('n');
        if (t.number() < least || t.number() > most) {
            throw new FaultFound(2, t.at);
        }
        return t.number();
    }

    private boolean atEnd() {
        return tokens.get(token).sort == 'e';
    }

    private int faultOr(FaultFound f) {
        fault = f.kind;
        return -1 - f.at;
    }

    int ground() {
        scan(900);
        fault = 0;
        Ground g = new Ground();
        boolean stockTold = false;
        try {
            while (!atEnd()) {
                Token t = take('w');
                switch (t.text) {
                    case "kind" -> kindLine(g, t);
                    case "row" -> rowLine(g, t);
                    case "shade" -> {
                        if (g.shades.size() == 12) {
                            throw new FaultFound(4, t.at);
                        }
                        g.shades.add(new Shade(takeNumber(0, g.columns() - 1),
                                takeNumber(0, g.rows.size() - 1), takeNumber(0, 9),
                                takeNumber(1, 100)));
                    }
                    case "water" -> {
                        if (stockTold) {
                            throw new FaultFound(3, t.at);
                        }
                        stockTold = true;
                        g.stock = takeNumber(0, 999);
                    }
                    default -> throw new FaultFound(1, t.at);
                }
                take(';');
                g.lines++;
            }
        } catch (FaultFound f) {
            return faultOr(f);
        }
        state = new State();
        state.ground = g;
        return g.lines;
    }

    private void kindLine(Ground g, Token t) {
        if (!g.rows.isEmpty()) {
            throw new FaultFound(3, t.at);
        }
        if (g.kinds.size() == 8) {
            throw new FaultFound(4, t.at);
        }
        Token name = take('w');
        if (TOLD_WORDS.contains(name.text)) {
            throw new FaultFound(1, name.at);
        }
        for (Kind k : g.kinds) {
            if (k.name.equals(name.text)) {
                throw new FaultFound(3, name.at);
            }
        }
        int hold = takeNumber(1, 50);
        int give = takeNumber(0, 99);
        int gift = 0;
        if (tokens.get(token).text.equals("gives")) {
            token++;
            gift = takeNumber(1, 9);
        }
        g.kinds.add(new Kind(name.text, hold, give, gift));
    }

    private void rowLine(Ground g, Token t) {
        if (g.rows.size() == 12) {
            throw new FaultFound(4, t.at);
        }
        Token row = take('w');
        if (!g.rows.isEmpty() && row.text.length() != g.columns()) {
            throw new FaultFound(2, row.at);
        }
        for (char c : row.text.toCharArray()) {
            if (c - 'a' >= g.kinds.size()) {
                throw new FaultFound(2, row.at);
            }
        }
        g.rows.add(row.text);
    }

    int night(int slot) {
        if (slot < 0 || slot > 5) {
            tape.clear();
            fault = 0;
            return -1001;
        }
        scan(400);
        fault = 0;
        List<Line> lines = new ArrayList<>();
        try {
            int latest = 0;
            while (!atEnd()) {
                Token t = take('w');
                if (!Set.of("cloud", "wind", "air", "sun").contains(t.text)) {
                    throw new FaultFound(1, t.at);
                }
                if (lines.size() == 24) {
                    throw new FaultFound(4, t.at);
                }
                latest = takeNumber(latest, 143);
                switch (t.text) {
                    case "cloud" -> lines.add(new Line("cloud", latest, takeNumber(0, 100), 0));
                    case "wind" -> lines.add(new Line("wind", latest, takeNumber(0, 9), 0));
                    case "air" -> lines.add(new Line("air", latest, takeNumber(0, 40),
                            takeNumber(0, 40)));
                    default -> lines.add(new Line("sun", latest, 1, 0));
                }
                take(';');
            }
        } catch (FaultFound f) {
            return faultOr(f);
        }
        state.nights.set(slot, lines);
        return lines.size();
    }

    int plan() {
        scan(300);
        fault = 0;
        List<Line> lines = new ArrayList<>();
        try {
            while (!atEnd()) {
                Token t = take('w');
                if (!Set.of("on", "wipe", "cover", "bare").contains(t.text)) {
                    throw new FaultFound(1, t.at);
                }
                if (lines.size() == 30) {
                    throw new FaultFound(4, t.at);
                }
                if (t.text.equals("on")) {
                    lines.add(new Line("on", takeNumber(1, 144), 0, 0));
                } else {
                    lines.add(new Line(t.text, takeNumber(0, state.ground.columns() - 1),
                            takeNumber(0, state.ground.rows.size() - 1), 0));
                }
                take(';');
            }
        } catch (FaultFound f) {
            return faultOr(f);
        }
        state.plan = lines;
        return lines.size();
    }

    // ---- going through a NIGHT ----

    private static int told(List<Line> night, String word, int t, boolean second, int without) {
        int told = without;
        for (Line line : night) {
            if (line.word.equals(word) && line.a <= t) {
                told = second ? line.c : line.b;
            }
        }
        return told;
    }

    private static int toldOf(List<Line> night, int t, int what) {
        return switch (what) {
            case 0 -> told(night, "cloud", t, false, 0);
            case 1 -> told(night, "wind", t, false, 0);
            case 2 -> told(night, "air", t, false, 10);
            case 3 -> told(night, "air", t, true, 8);
            default -> told(night, "sun", t, false, 0);
        };
    }

    private static final List<Deed> WHOLE = new ArrayList<>();

    static {
        for (int t = 0; t < 144; t++) {
            WHOLE.add(new Deed('s', 0));
        }
    }

    private Seen goThrough(List<Line> night, List<Deed> deeds, Change change) {
        Ground g = state.ground;
        int cells = g.size();
        Seen s = new Seen();
        s.stock = g.stock;
        s.water = new int[cells];
        s.warmth = new int[cells];
        s.covered = new boolean[cells];
        int[] told = new int[cells];
        for (int c = 0; c < cells; c++) {
            told[c] = g.sky(c);
        }
        Arrays.fill(s.warmth, 100 * toldOf(night, 0, 2));
        for (Deed deed : deeds) {
            switch (deed.sort) {
                case 'w' -> s.water[deed.cell] = 0;
                case 'c' -> s.covered[deed.cell] = true;
                case 'b' -> s.covered[deed.cell] = false;
                default -> goStep(s, night, change, told);
            }
        }
        return s;
    }

    private void goStep(Seen s, List<Line> night, Change change, int[] told) {
        int t = s.steps;
        int cloud = toldOf(night, t, 0);
        if (t < 72 && (change.cloudedHours & (1 << (t / 6))) != 0) {
            cloud = 100;
        }
        int wind = toldOf(night, t, 1);
        int air = toldOf(night, t, 2);
        int line = toldOf(night, t, 3);
        int sun = toldOf(night, t, 4);
        for (int c = 0; c < s.water.length; c++) {
            Kind k = state.ground.kinds.get(change.cell == c && change.kind >= 0 ? change.kind
                    : state.ground.kind(c));
            int sky = s.covered[c] ? 0 : told[c];
            if (change.cell == c && t >= change.lessFrom) {
                sky = Math.max(0, sky - change.less);
            }
            int ahead = s.warmth[c];
            int byAir = (100 * air - ahead) * (wind + 1) / (k.hold + 10);
            int bySun = sun * (8 * sky) / k.hold;
            int off = sky * (100 - cloud) * k.give / (100 * k.hold);
            s.warmth[c] = ahead + byAir + bySun - off;
            int d = 100 * line - s.warmth[c];
            if (d > 0) {
                int on = wind >= 3 || change.story == 2 ? 0 : Math.min(s.stock, d / 50 + 1);
                s.stock -= on;
                int gift = change.story == 1 ? 0 : k.gift;
                s.given += gift;
                s.water[c] += on + gift;
            } else {
                int off2 = Math.min(s.water[c], (wind + 1) * (-d / 40 + 1));
                s.water[c] -= off2;
                if (change.story != 2) {
                    s.stock += off2;
                }
            }
        }
        s.waterBehind.add(s.water.clone());
        s.warmthBehind.add(s.warmth.clone());
        s.steps++;
    }

    private List<Line> nightOf(int slot) {
        return slot < 0 || slot > 5 ? null : state.nights.get(slot);
    }

    private Seen whole(int slot) {
        return goThrough(nightOf(slot), WHOLE, new Change());
    }

    private Seen toSix(int slot, Change change) {
        return goThrough(nightOf(slot), WHOLE.subList(0, 72), change);
    }

    private Seen run() {
        return goThrough(state.runNight, state.deeds, new Change());
    }

    private static int count(int[] water, int least) {
        int n = 0;
        for (int w : water) {
            n += w >= least ? 1 : 0;
        }
        return n;
    }

    // ---- the calls ----

    /** Answers a call as SixDew is to: a boolean counts 1 or 0, a throw THROWS. */
    long call(String name, int... a) {
        return switch (name) {
            case "feed" -> feed(a);
            case "end" -> end(a[0]);
            case "ground" -> ground();
            case "fault" -> fault;
            case "cell" -> cell(a[0], a[1], a[2]);
            case "night" -> night(a[0]);
            case "sky" -> nightOf(a[0]) == null || a[1] < 0 || a[1] > 143 || a[2] < 0 || a[2] > 4
                    ? -1 : toldOf(nightOf(a[0]), a[1], a[2]);
            case "begin" -> begin(a[0]);
            case "on" -> on(a[0]);
            case "is" -> is(a[0], a[1], a[2]);
            case "now" -> now(a[0]);
            case "plan" -> plan();
            case "go" -> go(a[0]);
            case "went" -> went == null || a[0] < 0 || a[0] > 4 ? -1 : went[a[0]];
            case "image" -> image(a[0]);
            case "restore" -> restore(a[0]);
            case "count" -> count(a[0]);
            case "lawn" -> lawn();
            case "clouded" -> clouded(a[0]);
            case "tries" -> tries(a[0], a[1]);
            case "cameAt" -> came.isEmpty() || a[0] < 0 || a[0] > 1 ? -1
                    : came.get(a[0] == 0 ? 0 : came.size() - 1);
            case "drawnBy" -> drawn == null || a[0] < 0 || a[0] > 2 ? -1 : drawn[a[0]];
            default -> nightOf(a[0]) == null ? -1 : asked(name, a);
        };
    }

    private long asked(String name, int[] a) {
        return switch (name) {
            case "where" -> a[1] < 0 || a[1] > 143 || a[2] < 1 || a[2] > 9999 ? -1
                    : count(whole(a[0]).waterBehind.get(a[1]), a[2]);
            case "sick" -> sick(a[0], a[1]);
            case "walk" -> walk(a[0], a[1], a[2], a[3]);
            case "unlike" -> unlike(a[0], a[1]);
            case "bench" -> bench(a[0], a[1]);
            case "driest" -> driest(a[0], a[1]);
            case "hay" -> hay(a[0], a[1]);
            case "slugs" -> !state.ground.has(a[2], a[3]) || a[1] < 0 || a[1] > 143 ? -1
                    : slugs(a[0], a[1], a[3] * state.ground.columns() + a[2]);
            default -> state.ground.has(a[1], a[2])
                    ? askedOfCell(name, a, a[2] * state.ground.columns() + a[1]) : -1;
        };
    }

    private long askedOfCell(String name, int[] a, int c) {
        return switch (name) {
            case "much" -> a[3] < 0 || a[3] > 143 ? -1 : whole(a[0]).waterBehind.get(a[3])[c];
            case "begins" -> wetSteps(a[0], c).isEmpty() ? -1 : wetSteps(a[0], c).get(0);
            case "gone" -> gone(wetSteps(a[0], c));
            case "wet" -> wetSteps(a[0], c).size();
            case "spell" -> spell(whole(a[0]), c);
            case "frost" -> frost(a[0], c);
            case "came" -> came(a[0], c, a[3]);
            case "roof" -> roof(a[0], c);
            case "catcher" -> catcher(a[0], c);
            case "story" -> a[3] < 0 || a[3] > 143 || a[4] < 0 || a[4] > 2 ? -1
                    : byStory(a[0], a[4]).waterBehind.get(a[3])[c];
            case "part" -> part(a[0], c, a[3], a[4]);
            case "drawn" -> drawn(a[0], c, a[3], a[4]);
            default -> throw new IllegalStateException(name);
        };
    }

    private long feed(int[] a) {
        if (tape.size() + 20 > 940) {
            return -1;
        }
        for (int number : a) {
            for (int i = 3; i >= 0; i--) {
                tape.add(number >> 8 * i & 255);
            }
        }
        return tape.size();
    }

    private long end(int n) {
        if (n < 0 || n > tape.size()) {
            return 0;
        }
        tape.subList(n, tape.size()).clear();
        return 1;
    }

    private long cell(int x, int y, int what) {
        Ground g = state.ground;
        if (!g.has(x, y) || what < 0 || what > 4) {
            return THROWS;
        }
        int c = y * g.columns() + x;
        Kind k = g.kinds.get(g.kind(c));
        return new int[] {g.kind(c), g.sky(c), k.hold, k.give, k.gift}[what];
    }

    private long begin(int slot) {
        if (nightOf(slot) == null) {
            return 0;
        }
        state.runNight = nightOf(slot);
        state.deeds = new ArrayList<>();
        return 1;
    }

    private long on(int steps) {
        if (state.runNight == null || steps < 0 || steps > 144) {
            return -1;
        }
        int left = 144 - run().steps;
        int done = Math.min(left, steps);
        for (int i = 0; i < done; i++) {
            state.deeds.add(new Deed('s', 0));
        }
        return done;
    }

    private long is(int x, int y, int what) {
        Ground g = state.ground;
        if (state.runNight == null || !g.has(x, y) || what < 0 || what > 1) {
            return THROWS;
        }
        Seen s = run();
        return (what == 0 ? s.warmth : s.water)[y * g.columns() + x];
    }

    private long now(int what) {
        if (state.runNight == null || what < 0 || what > 4) {
            return -1;
        }
        Seen s = run();
        return new int[] {s.steps, s.stock, s.given, count(s.water, 1),
            Arrays.stream(s.water).sum()}[what];
    }

    private long go(int does) {
        if (state.runNight == null || does < 0 || does > 1) {
            return -2;
        }
        List<Deed> mine = state.deeds;
        state.deeds = new ArrayList<>(mine);
        int ahead = run().steps;
        went = new int[5];
        int wrong = -1;
        for (int i = 0; i < state.plan.size() && wrong < 0; i++) {
            Line line = state.plan.get(i);
            Seen s = run();
            int c = line.b * state.ground.columns() + line.a;
            if (line.word.equals("on")) {
                went[0] = line.a > 144 - s.steps ? 1 : 0;
                for (int k = 0; k < line.a && went[0] == 0; k++) {
                    state.deeds.add(new Deed('s', 0));
                }
            } else if (line.word.equals("wipe")) {
                went[0] = s.water[c] == 0 ? 2 : 0;
                went[2] += s.water[c];
                state.deeds.add(new Deed('w', c));
            } else {
                boolean cover = line.word.equals("cover");
                went[0] = s.covered[c] == cover ? 3 : 0;
                state.deeds.add(new Deed(cover ? 'c' : 'b', c));
            }
            wrong = went[0] == 0 ? -1 : i;
        }
        Seen s = run();
        went[1] = s.steps - ahead;
        went[3] = count(s.water, 1);
        for (boolean covered : s.covered) {
            went[4] += covered ? 1 : 0;
        }
        if (does == 0) {
            state.deeds = mine;
        }
        return wrong;
    }

    private List<Integer> wetSteps(int slot, int c) {
        List<Integer> wet = new ArrayList<>();
        Seen s = whole(slot);
        for (int t = 0; t < 144; t++) {
            if (s.waterBehind.get(t)[c] > 0) {
                wet.add(t);
            }
        }
        return wet;
    }

    private static long gone(List<Integer> wet) {
        int last = wet.isEmpty() ? 143 : wet.get(wet.size() - 1);
        return last == 143 ? -1 : last + 1;
    }

    private static int spell(Seen s, int c) {
        int best = 0;
        for (int from = 0; from < 144; from++) {
            int to = from;
            while (to < 144 && s.waterBehind.get(to)[c] > 0) {
                to++;
            }
            best = Math.max(best, to - from);
        }
        return best;
    }

    private long sick(int slot, int n) {
        if (n < 1 || n > 144) {
            return -1;
        }
        Seen s = whole(slot);
        int many = 0;
        for (int c = 0; c < s.water.length; c++) {
            many += spell(s, c) >= n ? 1 : 0;
        }
        return many;
    }

    private long frost(int slot, int c) {
        Seen s = whole(slot);
        for (int t = 0; t < 144; t++) {
            if (s.waterBehind.get(t)[c] > 0 && s.warmthBehind.get(t)[c] < 0) {
                return t;
            }
        }
        return -1;
    }

    private List<Integer> beside(int c) {
        int columns = state.ground.columns();
        List<Integer> all = new ArrayList<>();
        for (int o = 0; o < state.ground.size(); o++) {
            if (Math.abs(o % columns - c % columns) + Math.abs(o / columns - c / columns) == 1) {
                all.add(o);
            }
        }
        return all;
    }

    private long slugs(int slot, int t, int c) {
        int[] water = whole(slot).waterBehind.get(t);
        if (water[c] == 0) {
            return 0;
        }
        List<Integer> come = new ArrayList<>(List.of(c));
        for (int i = 0; i < come.size(); i++) {
            for (int o : beside(come.get(i))) {
                if (water[o] > 0 && !come.contains(o)) {
                    come.add(o);
                }
            }
        }
        return come.size();
    }

    private long walk(int slot, int t, int from, int to) {
        int cells = state.ground.size();
        if (t < 0 || t > 143 || from < 0 || to < 0 || from >= cells || to >= cells) {
            return -1;
        }
        int[] water = whole(slot).waterBehind.get(t);
        TreeMap<Integer, List<Integer>> open = new TreeMap<>();
        boolean[] shut = new boolean[cells];
        open.computeIfAbsent(water[from], k -> new ArrayList<>()).add(from);
        while (!open.isEmpty()) {
            var least = open.pollFirstEntry();
            for (int c : least.getValue()) {
                if (c == to) {
                    return least.getKey();
                }
            }
            for (int c : least.getValue()) {
                if (shut[c]) {
                    continue;
                }
                shut[c] = true;
                for (int o : beside(c)) {
                    open.computeIfAbsent(least.getKey() + water[o], k -> new ArrayList<>()).add(o);
                }
            }
        }
        return -1;
    }

    private long unlike(int slot, int other) {
        if (nightOf(other) == null) {
            return -1;
        }
        Seen a = whole(slot);
        Seen b = whole(other);
        for (int t = 0; t < 144; t++) {
            if (!Arrays.equals(a.waterBehind.get(t), b.waterBehind.get(t))) {
                return t;
            }
        }
        return -1;
    }

    private boolean dryToSix(int slot, int c, int less) {
        Change change = new Change();
        change.cell = c;
        change.less = less;
        for (int[] water : toSix(slot, change).waterBehind) {
            if (water[c] > 0) {
                return false;
            }
        }
        return true;
    }

    private long bench(int slot, int less) {
        if (less < 0 || less > 100) {
            return -1;
        }
        for (int c = 0; c < state.ground.size(); c++) {
            if (dryToSix(slot, c, less)) {
                return 100 * (c / state.ground.columns()) + c % state.ground.columns();
            }
        }
        return -1;
    }

    private long roof(int slot, int c) {
        for (int n = 0; n <= 100; n++) {
            if (dryToSix(slot, c, n)) {
                return n;
            }
        }
        return -1;
    }

    private List<Integer> takeTape() {
        List<Integer> taken = new ArrayList<>(tape);
        tape.clear();
        return taken;
    }

    private boolean isLawn(List<Integer> lawn) {
        return lawn.size() == state.ground.size() && lawn.stream().allMatch(b -> b <= 2);
    }

    private static boolean looksSo(Seen s, List<Integer> lawn) {
        for (int c = 0; c < lawn.size(); c++) {
            if (lawn.get(c) != 2 && lawn.get(c) != Math.min(1, s.water[c])) {
                return false;
            }
        }
        return true;
    }

    private long lawn() {
        List<Integer> lawn = takeTape();
        if (!isLawn(lawn)) {
            return -1;
        }
        int bits = 0;
        for (int slot = 0; slot < 6; slot++) {
            if (nightOf(slot) != null && looksSo(toSix(slot, new Change()), lawn)) {
                bits += 1 << slot;
            }
        }
        return bits;
    }

    private long clouded(int slot) {
        List<Integer> lawn = takeTape();
        if (nightOf(slot) == null || !isLawn(lawn)) {
            return -1;
        }
        int bits = 0;
        for (int hour = 0; hour < 12; hour++) {
            Change change = new Change();
            change.cloudedHours = 1 << hour;
            bits += looksSo(toSix(slot, change), lawn) ? 1 << hour : 0;
        }
        return bits;
    }

    private long came(int slot, int c, int much) {
        came = new ArrayList<>();
        for (int from = 0; from <= 72; from++) {
            Change change = new Change();
            change.cell = c;
            change.less = 100;
            change.lessFrom = from;
            if (toSix(slot, change).water[c] == much) {
                came.add(from);
            }
        }
        return came.size();
    }

    private long driest(int slot, int n) {
        Ground g = state.ground;
        int[] water = toSix(slot, new Change()).water;
        long best = -1;
        int least = Integer.MAX_VALUE;
        for (int y = 0; n >= 1 && y + n <= g.rows.size(); y++) {
            for (int x = 0; x + n <= g.columns(); x++) {
                int sum = 0;
                for (int i = 0; i < n * n; i++) {
                    sum += water[(y + i / n) * g.columns() + x + i % n];
                }
                if (sum < least) {
                    least = sum;
                    best = 100 * y + x;
                }
            }
        }
        return best;
    }

    private long catcher(int slot, int c) {
        int best = -1;
        int most = -1;
        for (int k = 0; k < state.ground.kinds.size(); k++) {
            Change change = new Change();
            change.cell = c;
            change.kind = k;
            int water = toSix(slot, change).water[c];
            if (water > most) {
                most = water;
                best = k;
            }
        }
        return best;
    }

    private Seen byStory(int slot, int which) {
        Change change = new Change();
        change.story = which;
        return goThrough(nightOf(slot), WHOLE, change);
    }

    private long part(int slot, int c, int a, int b) {
        if (a < 0 || a > 2 || b < 0 || b > 2) {
            return -1;
        }
        Seen one = byStory(slot, a);
        Seen two = byStory(slot, b);
        for (int t = 0; t < 144; t++) {
            if (one.waterBehind.get(t)[c] != two.waterBehind.get(t)[c]) {
                return t;
            }
        }
        return -1;
    }

    private long tries(int slot, int t) {
        List<Integer> taken = takeTape();
        List<Integer> cells = new ArrayList<>();
        if (nightOf(slot) == null || t < 0 || t > 143 || taken.size() % 2 == 1) {
            return -1;
        }
        for (int i = 0; i < taken.size(); i += 2) {
            int c = taken.get(i + 1) * state.ground.columns() + taken.get(i);
            if (!state.ground.has(taken.get(i), taken.get(i + 1)) || cells.contains(c)) {
                return -1;
            }
            cells.add(c);
        }
        if (cells.isEmpty() || cells.size() > 8) {
            return -1;
        }
        long best = -1;
        int fewest = 9;
        for (int set = 1; set < 1 << cells.size(); set++) {
            List<List<Integer>> seen = new ArrayList<>();
            for (int which = 0; which < 3; which++) {
                int[] water = byStory(slot, which).waterBehind.get(t);
                List<Integer> mine = new ArrayList<>();
                for (int i = 0; i < cells.size(); i++) {
                    mine.add((set >> i & 1) == 1 ? water[cells.get(i)] : -7);
                }
                seen.add(mine);
            }
            boolean parts = Set.copyOf(seen).size() == 3;
            if (parts && Integer.bitCount(set) < fewest) {
                fewest = Integer.bitCount(set);
                best = set;
            }
        }
        return best;
    }

    private long hay(int slot, int most) {
        if (most < 0 || most > 9999) {
            return -1;
        }
        Seen s = whole(slot);
        for (int t = 72; t < 144; t++) {
            if (Arrays.stream(s.waterBehind.get(t)).allMatch(w -> w <= most)) {
                return t;
            }
        }
        return -1;
    }

    private long drawn(int slot, int c, int nights, int seed) {
        if (nights < 1 || nights > 30) {
            return -1;
        }
        int x = seed;
        List<Integer> caught = new ArrayList<>();
        for (int night = 0; night < nights; night++) {
            Change change = new Change();
            for (int hour = 0; hour < 12; hour++) {
                x = x * 1103515245 + 12345;
                if ((x >>> 8) % 4 == 0) {
                    change.cloudedHours |= 1 << hour;
                }
            }
            caught.add(toSix(slot, change).water[c]);
        }
        drawn = new int[] {caught.stream().min(Integer::compare).get(),
            caught.stream().max(Integer::compare).get(),
            (int) caught.stream().filter(w -> w > 0).count()};
        return caught.stream().mapToInt(w -> w).sum();
    }

    private long image(int k) {
        if (k < 0 || k > 1) {
            return 0;
        }
        images[k] = state.copy();
        return 1;
    }

    private long restore(int k) {
        if (k < 0 || k > 1 || images[k] == null) {
            return 0;
        }
        state = images[k].copy();
        return 1;
    }

    private long count(int what) {
        int bits = 0;
        for (int slot = 0; slot < 6; slot++) {
            bits += nightOf(slot) != null ? 1 << slot : 0;
        }
        Ground g = state.ground;
        return what < 0 || what > 7 ? -1 : new int[] {g.columns(), g.rows.size(), g.kinds.size(),
            g.shades.size(), g.stock, bits, tape.size(), state.plan.size()}[what];
    }
}
