import java.util.NoSuchElementException;

/**
 * Dew on a ground of cells: nights gone through ten minutes by ten minutes, and what can be
 * asked of them. The words in capitals are those of ../shared/DOC.md.
 */
public final class SixDew {
    public static final int NONE = -1;

    private static final int TAPE_BYTES = 940;
    private static final int GROUND_BYTES = 900;
    private static final int NIGHT_BYTES = 400;
    private static final int PLAN_BYTES = 300;
    private static final int SIDE = 12;
    private static final int CELLS = 144;
    private static final int KINDS = 8;
    private static final int SHADES = 12;
    private static final int SLOTS = 6;
    private static final int PLACES = 2;
    private static final int NIGHT_LINES = 24;
    private static final int PLAN_LINES = 30;
    private static final int STEPS = 144;
    private static final int STEPS_TO_SIX = 72;
    private static final int HOURS = 12;
    private static final int STORIES = 3;
    private static final int TRIED_CELLS = 8;
    private static final int STOCK_UNTOLD = 500;

    private static final int FAULT_TOKEN = 1;
    private static final int FAULT_NUMBER = 2;
    private static final int FAULT_TWICE = 3;
    private static final int FAULT_MANY = 4;

    private static final int CLOUD = 0;
    private static final int WIND = 1;
    private static final int AIR = 2;
    private static final int LINE = 3;
    private static final int SUN = 4;
    private static final int TOLD = 5;

    private static final int DO_ON = 0;
    private static final int DO_WIPE = 1;
    private static final int DO_COVER = 2;
    private static final int DO_BARE = 3;

    private static final int WRONG_STEPS = 1;
    private static final int WRONG_DRY = 2;
    private static final int WRONG_COVER = 3;

    private static final int STORY_TOLD = 0;
    private static final int STORY_NO_GIFT = 1;
    private static final int STORY_NO_STOCK = 2;

    private final Tape tape = new Tape();
    private final State state = new State();
    private final State[] kept = new State[PLACES];
    private final GroundReader groundReader = new GroundReader();
    private final NightReader nightReader = new NightReader();
    private final PlanReader planReader = new PlanReader();
    private final Run trial = new Run();
    private final Run branch = new Run();
    private final Watch watch = new Watch();
    private final Paths paths = new Paths();
    private final int[] triedCells = new int[TRIED_CELLS];
    private final int[][] triedWater = new int[STORIES][TRIED_CELLS];
    private final int[] wentSo = new int[5];
    private boolean wentTold;
    private int cameFirst = NONE;
    private int cameLast = NONE;
    private final int[] drawnSo = new int[3];
    private boolean drawnTold;

    public SixDew() {
        for (int k = 0; k < PLACES; k++) {
            kept[k] = new State();
        }
    }

    // ---- the tape and its texts ----

    public int feed(int a, int b, int c, int d, int e) {
        if (tape.size + 20 > TAPE_BYTES) {
            return NONE;
        }
        tape.add(a);
        tape.add(b);
        tape.add(c);
        tape.add(d);
        tape.add(e);
        return tape.size;
    }

    public boolean end(int n) {
        if (n < 0 || n > tape.size) {
            return false;
        }
        tape.size = n;
        return true;
    }

    public int ground() {
        int lines = groundReader.readText(tape);
        tape.size = 0;
        if (lines == NONE) {
            return -1 - tape.faultPlace;
        }
        state.take(groundReader.read);
        return lines;
    }

    public int fault() {
        return tape.fault;
    }

    public int cell(int x, int y, int what) throws NoSuchElementException {
        int c = state.ground.cellAt(x, y);
        if (c == NONE || what < 0 || what > 4) {
            throw new NoSuchElementException("no such cell, or another what");
        }
        return state.ground.tell(c, what);
    }

    public int night(int slot) {
        Night here = state.nightOf(slot);
        if (here == null) {
            tape.size = 0;
            tape.fault = 0;
            return NONE - 1000;
        }
        int lines = nightReader.readText(tape);
        tape.size = 0;
        if (lines == NONE) {
            return -1 - tape.faultPlace;
        }
        here.copyFrom(nightReader.read);
        return lines;
    }

    public int sky(int slot, int t, int what) {
        Night here = state.nightOf(slot);
        if (here == null || !here.there || !isStep(t) || what < 0 || what >= TOLD) {
            return NONE;
        }
        return here.tell(what, t);
    }

    // ---- the RUN now ----

    public boolean begin(int slot) {
        return start(state.run, slot);
    }

    public int on(int steps) {
        if (!state.run.going || steps < 0 || steps > STEPS) {
            return NONE;
        }
        int ahead = state.run.done;
        state.run.until(ahead + steps);
        return state.run.done - ahead;
    }

    public int is(int x, int y, int what) throws NoSuchElementException {
        int c = state.ground.cellAt(x, y);
        if (c == NONE || !state.run.going || what < 0 || what > 1) {
            throw new NoSuchElementException("no such cell, another what, or no run");
        }
        return what == 0 ? state.run.warmthOf(c) : state.run.waterOf(c);
    }

    public int now(int what) {
        if (!state.run.going) {
            return NONE;
        }
        switch (what) {
            case 0: return state.run.done;
            case 1: return state.run.stock;
            case 2: return state.run.given;
            case 3: return state.run.wetCells(1);
            case 4: return state.run.waterOfAll();
            default: return NONE;
        }
    }

    public int plan() {
        int lines = planReader.readText(tape, state.ground);
        tape.size = 0;
        if (lines == NONE) {
            return -1 - tape.faultPlace;
        }
        state.plan.copyFrom(planReader.read);
        return lines;
    }

    public int go(int does) {
        if (!state.run.going || does < 0 || does > 1) {
            return -2;
        }
        Run run = does == 1 ? state.run : trial;
        if (does == 0) {
            trial.copyFrom(state.run);
        }
        int ahead = run.done;
        wentSo[0] = 0;
        wentSo[2] = 0;
        int wrongLine = NONE;
        for (int line = 0; line < state.plan.lines && wrongLine == NONE; line++) {
            wentSo[0] = doLine(run, line);
            wrongLine = wentSo[0] == 0 ? NONE : line;
        }
        wentSo[1] = run.done - ahead;
        wentSo[3] = run.wetCells(1);
        wentSo[4] = run.coveredCells();
        wentTold = true;
        return wrongLine;
    }

    public int went(int what) {
        if (!wentTold || what < 0 || what >= wentSo.length) {
            return NONE;
        }
        return wentSo[what];
    }

    /** Why the LINE is WRONG; 0: it is done. */
    private int doLine(Run run, int line) {
        int does = state.plan.tell(line, 0);
        int a = state.plan.tell(line, 1);
        if (does == DO_ON) {
            return run.goBy(a) ? 0 : WRONG_STEPS;
        }
        int c = state.ground.cellAt(a, state.plan.tell(line, 2));
        if (does == DO_WIPE) {
            int taken = run.wipe(c);
            wentSo[2] += taken;
            return taken > 0 ? 0 : WRONG_DRY;
        }
        boolean done = does == DO_COVER ? run.cover(c) : run.bare(c, state.ground.tell(c, 1));
        return done ? 0 : WRONG_COVER;
    }

    // ---- what a RUN of a SLOT tells ----

    public int much(int slot, int x, int y, int t) {
        int c = state.ground.cellAt(x, y);
        if (c == NONE || !runBehind(slot, t)) {
            return NONE;
        }
        return trial.waterOf(c);
    }

    public int where(int slot, int t, int least) {
        if (least < 1 || least > 9999 || !runBehind(slot, t)) {
            return NONE;
        }
        return trial.wetCells(least);
    }

    public int begins(int slot, int x, int y) {
        int c = state.ground.cellAt(x, y);
        return c != NONE && watched(slot) ? watch.tell(watch.first, c) : NONE;
    }

    public int gone(int slot, int x, int y) {
        int c = state.ground.cellAt(x, y);
        if (c == NONE || !watched(slot)) {
            return NONE;
        }
        int last = watch.tell(watch.last, c);
        return last == NONE || last == STEPS - 1 ? NONE : last + 1;
    }

    public int wet(int slot, int x, int y) {
        int c = state.ground.cellAt(x, y);
        return c != NONE && watched(slot) ? watch.tell(watch.wetSteps, c) : NONE;
    }

    public int spell(int slot, int x, int y) {
        int c = state.ground.cellAt(x, y);
        return c != NONE && watched(slot) ? watch.tell(watch.longest, c) : NONE;
    }

    public int sick(int slot, int n) {
        if (n < 1 || n > STEPS || !watched(slot)) {
            return NONE;
        }
        return watch.longSpells(n, state.ground.size());
    }

    public int frost(int slot, int x, int y) {
        int c = state.ground.cellAt(x, y);
        return c != NONE && watched(slot) ? watch.tell(watch.frosty, c) : NONE;
    }

    public int slugs(int slot, int t, int x, int y) {
        int c = state.ground.cellAt(x, y);
        if (c == NONE || !runBehind(slot, t)) {
            return NONE;
        }
        return paths.wetAround(trial, state.ground, c);
    }

    public int walk(int slot, int t, int from, int to) {
        int cells = state.ground.size();
        if (from < 0 || from >= cells || to < 0 || to >= cells || !runBehind(slot, t)) {
            return NONE;
        }
        return paths.leastWater(trial, state.ground, from, to);
    }

    public int unlike(int slot, int other) {
        if (!start(trial, slot) || !start(branch, other)) {
            return NONE;
        }
        for (int t = 0; t < STEPS; t++) {
            trial.step();
            branch.step();
            if (trial.isUnlike(branch)) {
                return t;
            }
        }
        return NONE;
    }

    public int bench(int slot, int less) {
        if (less < 0 || less > 100) {
            return NONE;
        }
        int cells = state.ground.size();
        for (int c = 0; c < cells; c++) {
            if (!start(trial, slot)) {
                return NONE;
            }
            trial.hideSky(c, less);
            if (trial.staysDry(c)) {
                return state.ground.placeOf(c);
            }
        }
        return NONE;
    }

    // ---- which NIGHT, which hour, which STEP ----

    public int lawn() {
        int bytes = tape.size;
        tape.size = 0;
        if (!isLawn(bytes)) {
            return NONE;
        }
        int slots = 0;
        for (int slot = 0; slot < SLOTS; slot++) {
            if (runBehind(slot, STEPS_TO_SIX - 1) && looksSo(trial)) {
                slots |= 1 << slot;
            }
        }
        return slots;
    }

    public int clouded(int slot) {
        int bytes = tape.size;
        tape.size = 0;
        if (!isLawn(bytes)) {
            return NONE;
        }
        int hours = 0;
        for (int hour = 0; hour < HOURS; hour++) {
            if (!start(trial, slot)) {
                return NONE;
            }
            trial.clouded = 1 << hour;
            trial.until(STEPS_TO_SIX);
            if (looksSo(trial)) {
                hours |= 1 << hour;
            }
        }
        return hours;
    }

    public int came(int slot, int x, int y, int much) {
        int c = state.ground.cellAt(x, y);
        if (c == NONE || !start(trial, slot)) {
            return NONE;
        }
        cameFirst = NONE;
        cameLast = NONE;
        int steps = 0;
        for (int t = 0; t <= STEPS_TO_SIX; t++) {
            branch.copyFrom(trial);
            branch.hideSky(c, 100);
            branch.until(STEPS_TO_SIX);
            if (branch.waterOf(c) == much) {
                cameFirst = steps == 0 ? t : cameFirst;
                cameLast = t;
                steps++;
            }
            trial.step();
        }
        return steps;
    }

    public int cameAt(int what) {
        switch (what) {
            case 0: return cameFirst;
            case 1: return cameLast;
            default: return NONE;
        }
    }

    public int roof(int slot, int x, int y) {
        int c = state.ground.cellAt(x, y);
        if (c == NONE) {
            return NONE;
        }
        for (int n = 0; n <= 100; n++) {
            if (!start(trial, slot)) {
                return NONE;
            }
            trial.hideSky(c, n);
            if (trial.staysDry(c)) {
                return n;
            }
        }
        return NONE;
    }

    public int driest(int slot, int n) {
        int columns = state.ground.columns;
        int rows = state.ground.rows;
        if (n < 1 || n > columns || n > rows || !runBehind(slot, STEPS_TO_SIX - 1)) {
            return NONE;
        }
        int best = NONE;
        int least = 0;
        for (int y = 0; y <= rows - n; y++) {
            for (int x = 0; x <= columns - n; x++) {
                int water = waterOfSquare(x, y, n);
                if (best == NONE || water < least) {
                    best = 100 * y + x;
                    least = water;
                }
            }
        }
        return best;
    }

    public int catcher(int slot, int x, int y) {
        int c = state.ground.cellAt(x, y);
        if (c == NONE) {
            return NONE;
        }
        int best = NONE;
        int most = NONE;
        for (int kind = 0; kind < state.ground.kinds; kind++) {
            if (!start(trial, slot)) {
                return NONE;
            }
            trial.setKind(c, state.ground, kind);
            trial.until(STEPS_TO_SIX);
            if (trial.waterOf(c) > most) {
                best = kind;
                most = trial.waterOf(c);
            }
        }
        return best;
    }

    // ---- STORIES ----

    public int story(int slot, int x, int y, int t, int which) {
        int c = state.ground.cellAt(x, y);
        if (c == NONE || !isStep(t) || !isStory(which) || !start(trial, slot)) {
            return NONE;
        }
        trial.story = which;
        trial.until(t + 1);
        return trial.waterOf(c);
    }

    public int part(int slot, int x, int y, int a, int b) {
        int c = state.ground.cellAt(x, y);
        if (c == NONE || !isStory(a) || !isStory(b)) {
            return NONE;
        }
        if (!start(trial, slot) || !start(branch, slot)) {
            return NONE;
        }
        trial.story = a;
        branch.story = b;
        for (int t = 0; t < STEPS; t++) {
            trial.step();
            branch.step();
            if (trial.waterOf(c) != branch.waterOf(c)) {
                return t;
            }
        }
        return NONE;
    }

    public int tries(int slot, int t) {
        int bytes = tape.size;
        tape.size = 0;
        int cells = bytes / 2;
        if (!areTriedCells(bytes) || !isStep(t)) {
            return NONE;
        }
        for (int which = 0; which < STORIES; which++) {
            if (!start(trial, slot)) {
                return NONE;
            }
            trial.story = which;
            trial.until(t + 1);
            for (int i = 0; i < cells && i < TRIED_CELLS; i++) {
                triedWater[which][i] = trial.waterOf(triedCells[i]);
            }
        }
        return fewestParting(cells);
    }

    public int hay(int slot, int most) {
        if (most < 0 || most > 9999 || !start(trial, slot)) {
            return NONE;
        }
        trial.until(STEPS_TO_SIX);
        for (int t = STEPS_TO_SIX; t < STEPS; t++) {
            trial.step();
            if (trial.wetCells(most + 1) == 0) {
                return t;
            }
        }
        return NONE;
    }

    // ---- NIGHTS drawn, images ----

    public int drawn(int slot, int x, int y, int nights, int seed) {
        int c = state.ground.cellAt(x, y);
        if (c == NONE || nights < 1 || nights > 30 || !start(trial, slot)) {
            return NONE;
        }
        int draws = seed;
        int caught = 0;
        drawnSo[2] = 0;
        for (int i = 0; i < nights; i++) {
            if (!start(trial, slot)) {
                return NONE;
            }
            for (int hour = 0; hour < HOURS; hour++) {
                draws = draws * 1103515245 + 12345;
                trial.clouded |= (draws >>> 8) % 4 == 0 ? 1 << hour : 0;
            }
            trial.until(STEPS_TO_SIX);
            int water = trial.waterOf(c);
            caught += water;
            drawnSo[0] = i == 0 ? water : Math.min(drawnSo[0], water);
            drawnSo[1] = i == 0 ? water : Math.max(drawnSo[1], water);
            drawnSo[2] += water > 0 ? 1 : 0;
        }
        drawnTold = true;
        return caught;
    }

    public int drawnBy(int what) {
        if (!drawnTold || what < 0 || what >= drawnSo.length) {
            return NONE;
        }
        return drawnSo[what];
    }

    public boolean image(int k) {
        if (k < 0 || k >= PLACES || kept[k] == null) {
            return false;
        }
        kept[k].copyFrom(state);
        kept[k].there = true;
        return true;
    }

    public boolean restore(int k) {
        if (k < 0 || k >= PLACES || kept[k] == null || !kept[k].there) {
            return false;
        }
        state.copyFrom(kept[k]);
        return true;
    }

    public int count(int what) {
        switch (what) {
            case 0: return state.ground.columns;
            case 1: return state.ground.rows;
            case 2: return state.ground.kinds;
            case 3: return state.ground.shades;
            case 4: return state.ground.stock;
            case 5: return state.slotsWithNight();
            case 6: return tape.size;
            case 7: return state.plan.lines;
            default: return NONE;
        }
    }

    // ---- what several calls use ----

    private static boolean isStep(int t) {
        return t >= 0 && t < STEPS;
    }

    private static boolean isStory(int which) {
        return which >= 0 && which < STORIES;
    }

    /** Sets a RUN of a SLOT ahead of STEP 0; false: there is none, and nothing is set. */
    private boolean start(Run run, int slot) {
        Night night = state.nightOf(slot);
        if (night == null || !night.there) {
            return false;
        }
        run.start(state.ground, night);
        return true;
    }

    /** A RUN of a SLOT, gone on with until STEP t is done, is in trial. */
    private boolean runBehind(int slot, int t) {
        if (!isStep(t) || !start(trial, slot)) {
            return false;
        }
        trial.until(t + 1);
        return true;
    }

    /** A whole RUN of a SLOT has been looked at behind each STEP. */
    private boolean watched(int slot) {
        if (!start(trial, slot)) {
            return false;
        }
        watch.clear();
        for (int t = 0; t < STEPS; t++) {
            trial.step();
            watch.look(trial, t);
        }
        return true;
    }

    private boolean isLawn(int bytes) {
        if (bytes != state.ground.size()) {
            return false;
        }
        for (int c = 0; c < bytes; c++) {
            if (tape.byteAt(c) > 2) {
                return false;
            }
        }
        return true;
    }

    private boolean looksSo(Run run) {
        int cells = state.ground.size();
        for (int c = 0; c < cells; c++) {
            int seen = tape.byteAt(c);
            int looks = run.waterOf(c) > 0 ? 1 : 0;
            if (seen != 2 && seen != looks) {
                return false;
            }
        }
        return true;
    }

    private int waterOfSquare(int left, int top, int n) {
        int water = 0;
        for (int y = top; y < top + n; y++) {
            for (int x = left; x < left + n; x++) {
                water += trial.waterOf(state.ground.cellAt(x, y));
            }
        }
        return water;
    }

    private boolean areTriedCells(int bytes) {
        if (bytes < 2 || bytes > 2 * TRIED_CELLS || bytes % 2 != 0) {
            return false;
        }
        for (int i = 0; i < bytes / 2; i++) {
            int c = state.ground.cellAt(tape.byteAt(2 * i), tape.byteAt(2 * i + 1));
            if (c == NONE) {
                return false;
            }
            for (int j = 0; j < i; j++) {
                if (triedCells[j] == c) {
                    return false;
                }
            }
            triedCells[i] = c;
        }
        return true;
    }

    private int fewestParting(int cells) {
        int best = NONE;
        for (int set = 1; set < 1 << cells; set++) {
            if (parts(set, 0, 1) && parts(set, 0, 2) && parts(set, 1, 2)
                    && (best == NONE || Integer.bitCount(set) < Integer.bitCount(best))) {
                best = set;
            }
        }
        return best;
    }

    private boolean parts(int set, int a, int b) {
        for (int i = 0; i < TRIED_CELLS; i++) {
            if ((set >> i & 1) == 1 && triedWater[a][i] != triedWater[b][i]) {
                return true;
            }
        }
        return false;
    }

    // ---- the classes inside ----

    /** The bytes told so far, taken apart into TOKENS, and the first FAULT found in them. */
    private static final class Tape {
        static final int END = 0;
        static final int WORD = 1;
        static final int NUMBER = 2;
        static final int STOP = 3;
        static final int NO_TOKEN = 4;

        final int[] bytes = new int[TAPE_BYTES];
        int size;
        int limit;
        int next;
        int from;
        int token;
        int value;
        int fault;
        int faultPlace;

        void add(int number) {
            for (int shift = 24; shift >= 0; shift -= 8) {
                if (size >= 0 && size < bytes.length) {
                    bytes[size] = number >>> shift & 255;
                    size++;
                }
            }
        }

        int byteAt(int i) {
            return i >= 0 && i < bytes.length ? bytes[i] : 0;
        }

        void open(int most) {
            limit = most;
            next = 0;
            from = 0;
            fault = 0;
            faultPlace = 0;
        }

        /** Takes the TOKEN that comes next; behind the most bytes there is none. */
        void take() {
            while (next < size && (byteAt(next) == ' ' || byteAt(next) == '\n')) {
                next++;
            }
            from = next;
            if (size > limit && from >= limit) {
                from = limit;
                token = NO_TOKEN;
            } else if (from >= size) {
                from = size;
                token = END;
            } else if (byteAt(from) == ';') {
                next = from + 1;
                token = STOP;
            } else {
                takeWordOrNumber();
            }
        }

        private void takeWordOrNumber() {
            int letters = 0;
            int digits = 0;
            value = 0;
            while (next < size && next < TAPE_BYTES) {
                int sign = bytes[next];
                if (sign >= 'a' && sign <= 'z') {
                    letters++;
                } else if (sign >= '0' && sign <= '9') {
                    digits++;
                    // More digits make no NUMBER: what they come to is of no use.
                    value = digits <= 3 ? 10 * value + sign - '0' : value;
                } else {
                    break;
                }
                next++;
            }
            token = NO_TOKEN;
            if (digits == 0 && letters >= 1 && letters <= 12) {
                token = WORD;
            } else if (letters == 0 && digits >= 1 && digits <= 3) {
                token = NUMBER;
            }
        }

        int tokenSize() {
            return next - from;
        }

        boolean says(String word) {
            if (token != WORD || tokenSize() != word.length()) {
                return false;
            }
            for (int i = 0; i < word.length(); i++) {
                if (byteAt(from + i) != word.charAt(i)) {
                    return false;
                }
            }
            return true;
        }

        boolean saysTold() {
            return says("kind") || says("gives") || says("row") || says("shade") || says("water")
                    || says("cloud") || says("wind") || says("air") || says("sun")
                    || says("on") || says("wipe") || says("cover") || says("bare");
        }

        boolean saysAsAt(int place, int length) {
            if (token != WORD || tokenSize() != length) {
                return false;
            }
            for (int i = 0; i < length; i++) {
                if (byteAt(from + i) != byteAt(place + i)) {
                    return false;
                }
            }
            return true;
        }

        /** The TOKEN taken last has a FAULT: answers false, for the reader to stop by. */
        boolean fail(int kind) {
            fault = kind;
            faultPlace = from;
            return false;
        }

        boolean takeWord() {
            take();
            return token == WORD || fail(FAULT_TOKEN);
        }

        boolean takeNumber(int least, int most) {
            take();
            if (token != NUMBER) {
                return fail(FAULT_TOKEN);
            }
            return value >= least && value <= most || fail(FAULT_NUMBER);
        }

        boolean takeStop() {
            take();
            return token == STOP || fail(FAULT_TOKEN);
        }
    }

    /** A GROUND as it was told. */
    private static final class Ground {
        int columns;
        int rows;
        int kinds;
        int shades;
        int stock = STOCK_UNTOLD;
        final int[] hold = new int[KINDS];
        final int[] give = new int[KINDS];
        final int[] gift = new int[KINDS];
        final int[] kindOf = new int[CELLS];
        final int[] skyOf = new int[CELLS];

        int size() {
            return columns * rows;
        }

        int cellAt(int x, int y) {
            return x >= 0 && x < columns && y >= 0 && y < rows ? y * columns + x : NONE;
        }

        int placeOf(int c) {
            return columns > 0 ? 100 * (c / columns) + c % columns : NONE;
        }

        /** Of a CELL, as cell() counts: KIND, SKY, HOLD, GIVE, what it gives. */
        int tell(int c, int what) {
            if (c < 0 || c >= CELLS) {
                return 0;
            }
            switch (what) {
                case 0: return kindOf[c];
                case 1: return skyOf[c];
                case 2: return ofKind(hold, kindOf[c]);
                case 3: return ofKind(give, kindOf[c]);
                default: return ofKind(gift, kindOf[c]);
            }
        }

        int ofKind(int[] told, int kind) {
            return kind >= 0 && kind < told.length ? told[kind] : 0;
        }

        void clear() {
            columns = 0;
            rows = 0;
            kinds = 0;
            shades = 0;
            stock = STOCK_UNTOLD;
        }

        void copyFrom(Ground other) {
            columns = other.columns;
            rows = other.rows;
            kinds = other.kinds;
            shades = other.shades;
            stock = other.stock;
            System.arraycopy(other.hold, 0, hold, 0, KINDS);
            System.arraycopy(other.give, 0, give, 0, KINDS);
            System.arraycopy(other.gift, 0, gift, 0, KINDS);
            System.arraycopy(other.kindOf, 0, kindOf, 0, CELLS);
            System.arraycopy(other.skyOf, 0, skyOf, 0, CELLS);
        }
    }

    /** Reads a GROUND aside, so that the one now stays if there is a FAULT. */
    private static final class GroundReader {
        final Ground read = new Ground();
        final int[] nameFrom = new int[KINDS];
        final int[] nameSize = new int[KINDS];
        final int[][] shade = new int[SHADES][4];
        boolean stockTold;

        /** How many LINES; NONE: there is a FAULT. */
        int readText(Tape tape) {
            read.clear();
            stockTold = false;
            tape.open(GROUND_BYTES);
            for (int lines = 0; lines <= TAPE_BYTES; lines++) {
                tape.take();
                if (tape.token == Tape.END) {
                    setSky();
                    return lines;
                }
                if (!readLine(tape)) {
                    return NONE;
                }
            }
            return NONE;
        }

        private boolean readLine(Tape tape) {
            if (tape.says("kind")) {
                return readKind(tape);
            }
            if (tape.says("row")) {
                return readRow(tape);
            }
            if (tape.says("shade")) {
                return readShade(tape);
            }
            if (tape.says("water")) {
                return readStock(tape);
            }
            return tape.fail(FAULT_TOKEN);
        }

        private boolean readKind(Tape tape) {
            int k = read.kinds;
            if (read.rows > 0) {
                return tape.fail(FAULT_TWICE);
            }
            if (k < 0 || k >= KINDS) {
                return tape.fail(FAULT_MANY);
            }
            if (!tape.takeWord() || !isNewName(tape, k) || !tape.takeNumber(1, 50)) {
                return false;
            }
            read.hold[k] = tape.value;
            if (!tape.takeNumber(0, 99)) {
                return false;
            }
            read.give[k] = tape.value;
            read.gift[k] = 0;
            tape.take();
            if (tape.says("gives")) {
                if (!tape.takeNumber(1, 9)) {
                    return false;
                }
                read.gift[k] = tape.value;
                tape.take();
            }
            read.kinds = k + 1;
            return tape.token == Tape.STOP || tape.fail(FAULT_TOKEN);
        }

        private boolean isNewName(Tape tape, int k) {
            if (tape.saysTold()) {
                return tape.fail(FAULT_TOKEN);
            }
            for (int i = 0; i < k && i < KINDS; i++) {
                if (tape.saysAsAt(nameFrom[i], nameSize[i])) {
                    return tape.fail(FAULT_TWICE);
                }
            }
            if (k >= 0 && k < KINDS) {
                nameFrom[k] = tape.from;
                nameSize[k] = tape.tokenSize();
            }
            return true;
        }

        private boolean readRow(Tape tape) {
            if (read.rows >= SIDE) {
                return tape.fail(FAULT_MANY);
            }
            if (!tape.takeWord()) {
                return false;
            }
            int letters = tape.tokenSize();
            if (read.rows > 0 && letters != read.columns) {
                return tape.fail(FAULT_NUMBER);
            }
            int first = read.rows * letters;
            for (int x = 0; x < letters; x++) {
                int kind = tape.byteAt(tape.from + x) - 'a';
                if (kind < 0 || kind >= read.kinds || first + x >= CELLS) {
                    return tape.fail(FAULT_NUMBER);
                }
                read.kindOf[first + x] = kind;
            }
            read.columns = letters;
            read.rows++;
            return tape.takeStop();
        }

        private boolean readShade(Tape tape) {
            int n = read.shades;
            if (n < 0 || n >= SHADES) {
                return tape.fail(FAULT_MANY);
            }
            if (!tape.takeNumber(0, read.columns - 1)) {
                return false;
            }
            shade[n][0] = tape.value;
            if (!tape.takeNumber(0, read.rows - 1)) {
                return false;
            }
            shade[n][1] = tape.value;
            if (!tape.takeNumber(0, 9)) {
                return false;
            }
            shade[n][2] = tape.value;
            if (!tape.takeNumber(1, 100)) {
                return false;
            }
            shade[n][3] = tape.value;
            read.shades = n + 1;
            return tape.takeStop();
        }

        private boolean readStock(Tape tape) {
            if (stockTold) {
                return tape.fail(FAULT_TWICE);
            }
            if (!tape.takeNumber(0, 999)) {
                return false;
            }
            stockTold = true;
            read.stock = tape.value;
            return tape.takeStop();
        }

        private void setSky() {
            for (int y = 0; y < read.rows; y++) {
                for (int x = 0; x < read.columns; x++) {
                    int c = y * read.columns + x;
                    if (c < CELLS) {
                        read.skyOf[c] = Math.max(0, 100 - hiddenAt(x, y));
                    }
                }
            }
        }

        private int hiddenAt(int x, int y) {
            int hidden = 0;
            for (int i = 0; i < read.shades && i < SHADES; i++) {
                int away = Math.max(Math.abs(shade[i][0] - x), Math.abs(shade[i][1] - y));
                hidden += away <= shade[i][2] ? shade[i][3] : 0;
            }
            return hidden;
        }
    }

    /** A NIGHT, written out for each STEP. */
    private static final class Night {
        boolean there;
        final int[][] told = new int[TOLD][STEPS];

        int tell(int what, int t) {
            return what >= 0 && what < TOLD && isStep(t) ? told[what][t] : 0;
        }

        /** From STEP t on it is so. */
        void set(int what, int t, int value) {
            for (int i = Math.max(0, t); i < STEPS && what >= 0 && what < TOLD; i++) {
                told[what][i] = value;
            }
        }

        void clear() {
            there = false;
            set(CLOUD, 0, 0);
            set(WIND, 0, 0);
            set(AIR, 0, 10);
            set(LINE, 0, 8);
            set(SUN, 0, 0);
        }

        void copyFrom(Night other) {
            there = other.there;
            for (int what = 0; what < TOLD; what++) {
                System.arraycopy(other.told[what], 0, told[what], 0, STEPS);
            }
        }
    }

    /** Reads a NIGHT aside, so that the one of the SLOT stays if there is a FAULT. */
    private static final class NightReader {
        final Night read = new Night();
        int latest;

        /** How many LINES; NONE: there is a FAULT. */
        int readText(Tape tape) {
            read.clear();
            read.there = true;
            latest = 0;
            tape.open(NIGHT_BYTES);
            for (int lines = 0; lines <= NIGHT_LINES; lines++) {
                tape.take();
                if (tape.token == Tape.END) {
                    return lines;
                }
                if (!readLine(tape, lines)) {
                    return NONE;
                }
            }
            return NONE;
        }

        private boolean readLine(Tape tape, int line) {
            int what = whatIsTold(tape);
            if (what == NONE) {
                return tape.fail(FAULT_TOKEN);
            }
            if (line >= NIGHT_LINES) {
                return tape.fail(FAULT_MANY);
            }
            if (!tape.takeNumber(latest, STEPS - 1)) {
                return false;
            }
            latest = tape.value;
            if (what == SUN) {
                read.set(SUN, latest, 1);
                return tape.takeStop();
            }
            if (!tape.takeNumber(0, mostOf(what))) {
                return false;
            }
            read.set(what, latest, tape.value);
            if (what == AIR) {
                if (!tape.takeNumber(0, mostOf(LINE))) {
                    return false;
                }
                read.set(LINE, latest, tape.value);
            }
            return tape.takeStop();
        }

        private static int whatIsTold(Tape tape) {
            if (tape.says("cloud")) {
                return CLOUD;
            }
            if (tape.says("wind")) {
                return WIND;
            }
            if (tape.says("air")) {
                return AIR;
            }
            return tape.says("sun") ? SUN : NONE;
        }

        private static int mostOf(int what) {
            switch (what) {
                case CLOUD: return 100;
                case WIND: return 9;
                default: return 40;
            }
        }
    }

    /** A PLAN: of each LINE what it does, and its NUMBERS. */
    private static final class Plan {
        int lines;
        final int[][] line = new int[PLAN_LINES][3];

        int tell(int i, int what) {
            return i >= 0 && i < PLAN_LINES && what >= 0 && what < 3 ? line[i][what] : 0;
        }

        void set(int i, int what, int value) {
            if (i >= 0 && i < PLAN_LINES && what >= 0 && what < 3) {
                line[i][what] = value;
            }
        }

        void copyFrom(Plan other) {
            lines = other.lines;
            for (int i = 0; i < PLAN_LINES; i++) {
                System.arraycopy(other.line[i], 0, line[i], 0, 3);
            }
        }
    }

    /** Reads a PLAN aside, so that the one now stays if there is a FAULT. */
    private static final class PlanReader {
        final Plan read = new Plan();

        /** How many LINES; NONE: there is a FAULT. */
        int readText(Tape tape, Ground ground) {
            tape.open(PLAN_BYTES);
            for (int lines = 0; lines <= PLAN_LINES; lines++) {
                tape.take();
                if (tape.token == Tape.END) {
                    read.lines = lines;
                    return lines;
                }
                if (!readLine(tape, ground, lines)) {
                    return NONE;
                }
            }
            return NONE;
        }

        private boolean readLine(Tape tape, Ground ground, int line) {
            int does = whatIsDone(tape);
            if (does == NONE) {
                return tape.fail(FAULT_TOKEN);
            }
            if (line >= PLAN_LINES) {
                return tape.fail(FAULT_MANY);
            }
            read.set(line, 0, does);
            if (does == DO_ON) {
                if (!tape.takeNumber(1, STEPS)) {
                    return false;
                }
                read.set(line, 1, tape.value);
                return tape.takeStop();
            }
            if (!tape.takeNumber(0, ground.columns - 1)) {
                return false;
            }
            read.set(line, 1, tape.value);
            if (!tape.takeNumber(0, ground.rows - 1)) {
                return false;
            }
            read.set(line, 2, tape.value);
            return tape.takeStop();
        }

        private static int whatIsDone(Tape tape) {
            if (tape.says("on")) {
                return DO_ON;
            }
            if (tape.says("wipe")) {
                return DO_WIPE;
            }
            if (tape.says("cover")) {
                return DO_COVER;
            }
            return tape.says("bare") ? DO_BARE : NONE;
        }
    }

    /**
     * A NIGHT gone through. It has the CELLS' numbers and the NIGHT for its own, so that a
     * question may change them (a car, a roof, another KIND) and the GROUND stays as told.
     */
    private static final class Run {
        boolean going;
        int cells;
        int done;
        int stock;
        int given;
        int story;
        int clouded;
        final Night night = new Night();
        final int[] hold = new int[CELLS];
        final int[] give = new int[CELLS];
        final int[] gift = new int[CELLS];
        final int[] skyOf = new int[CELLS];
        final int[] covered = new int[CELLS];
        final int[] warmth = new int[CELLS];
        final int[] water = new int[CELLS];

        void start(Ground ground, Night of) {
            going = true;
            cells = Math.min(CELLS, ground.size());
            done = 0;
            stock = ground.stock;
            given = 0;
            story = STORY_TOLD;
            clouded = 0;
            night.copyFrom(of);
            for (int c = 0; c < cells; c++) {
                setKind(c, ground, ground.kindOf[c]);
                skyOf[c] = ground.skyOf[c];
                covered[c] = 0;
                warmth[c] = 100 * night.tell(AIR, 0);
                water[c] = 0;
            }
        }

        boolean has(int c) {
            return c >= 0 && c < cells && c < CELLS;
        }

        void setKind(int c, Ground ground, int kind) {
            if (has(c)) {
                hold[c] = ground.ofKind(ground.hold, kind);
                give[c] = ground.ofKind(ground.give, kind);
                gift[c] = ground.ofKind(ground.gift, kind);
            }
        }

        void hideSky(int c, int less) {
            if (has(c)) {
                skyOf[c] = Math.max(0, skyOf[c] - less);
            }
        }

        int warmthOf(int c) {
            return has(c) ? warmth[c] : 0;
        }

        int waterOf(int c) {
            return has(c) ? water[c] : 0;
        }

        int wetCells(int least) {
            int wetOnes = 0;
            for (int c = 0; c < cells && c < CELLS; c++) {
                wetOnes += water[c] >= least ? 1 : 0;
            }
            return wetOnes;
        }

        int waterOfAll() {
            int sum = 0;
            for (int c = 0; c < cells && c < CELLS; c++) {
                sum += water[c];
            }
            return sum;
        }

        int coveredCells() {
            int sum = 0;
            for (int c = 0; c < cells && c < CELLS; c++) {
                sum += covered[c];
            }
            return sum;
        }

        boolean isUnlike(Run other) {
            for (int c = 0; c < cells && c < CELLS; c++) {
                if (water[c] != other.waterOf(c)) {
                    return true;
                }
            }
            return false;
        }

        boolean goBy(int steps) {
            if (steps > STEPS - done) {
                return false;
            }
            until(done + steps);
            return true;
        }

        /** How much WATER was taken. */
        int wipe(int c) {
            int taken = waterOf(c);
            if (has(c)) {
                water[c] = 0;
            }
            return taken;
        }

        boolean cover(int c) {
            if (!has(c) || covered[c] == 1) {
                return false;
            }
            covered[c] = 1;
            skyOf[c] = 0;
            return true;
        }

        boolean bare(int c, int sky) {
            if (!has(c) || covered[c] == 0) {
                return false;
            }
            covered[c] = 0;
            skyOf[c] = sky;
            return true;
        }

        /** Goes on until so many STEPS are done in all, or the last one is. */
        void until(int steps) {
            for (int i = 0; i < STEPS && done < steps; i++) {
                step();
            }
        }

        boolean staysDry(int c) {
            for (int t = 0; t < STEPS_TO_SIX; t++) {
                step();
                if (waterOf(c) > 0) {
                    return false;
                }
            }
            return true;
        }

        void step() {
            if (!isStep(done)) {
                return;
            }
            boolean hidden = done < STEPS_TO_SIX && (clouded >> done / 6 & 1) == 1;
            int clear = 100 - (hidden ? 100 : night.tell(CLOUD, done));
            int wind = night.tell(WIND, done);
            int air = 100 * night.tell(AIR, done);
            int line = 100 * night.tell(LINE, done);
            int sun = night.tell(SUN, done);
            for (int c = 0; c < cells && c < CELLS; c++) {
                warmth[c] += warmer(c, clear, wind, air, sun);
                int lack = line - warmth[c];
                if (lack > 0) {
                    comeOn(c, lack, wind);
                } else {
                    dryOff(c, -lack, wind);
                }
            }
            done++;
        }

        private int warmer(int c, int clear, int wind, int air, int sun) {
            // No KIND holds less than 1, so that no division here is by 0.
            int holds = Math.max(1, hold[c]);
            return (air - warmth[c]) * (wind + 1) / (holds + 10)
                    + sun * 8 * skyOf[c] / holds
                    - skyOf[c] * clear * give[c] / (100 * holds);
        }

        private void comeOn(int c, int lack, int wind) {
            if (wind < 3 && story != STORY_NO_STOCK) {
                int comes = Math.min(stock, lack / 50 + 1);
                stock -= comes;
                water[c] += comes;
            }
            if (story != STORY_NO_GIFT) {
                given += gift[c];
                water[c] += gift[c];
            }
        }

        private void dryOff(int c, int over, int wind) {
            int dries = Math.min(water[c], (wind + 1) * (over / 40 + 1));
            water[c] -= dries;
            stock += story == STORY_NO_STOCK ? 0 : dries;
        }

        void copyFrom(Run other) {
            going = other.going;
            cells = other.cells;
            done = other.done;
            stock = other.stock;
            given = other.given;
            story = other.story;
            clouded = other.clouded;
            night.copyFrom(other.night);
            System.arraycopy(other.hold, 0, hold, 0, CELLS);
            System.arraycopy(other.give, 0, give, 0, CELLS);
            System.arraycopy(other.gift, 0, gift, 0, CELLS);
            System.arraycopy(other.skyOf, 0, skyOf, 0, CELLS);
            System.arraycopy(other.covered, 0, covered, 0, CELLS);
            System.arraycopy(other.warmth, 0, warmth, 0, CELLS);
            System.arraycopy(other.water, 0, water, 0, CELLS);
        }
    }

    /** What one sees of each CELL by looking at a RUN behind each STEP. */
    private static final class Watch {
        final int[] first = new int[CELLS];
        final int[] last = new int[CELLS];
        final int[] wetSteps = new int[CELLS];
        final int[] lasting = new int[CELLS];
        final int[] longest = new int[CELLS];
        final int[] frosty = new int[CELLS];

        void clear() {
            for (int c = 0; c < CELLS; c++) {
                first[c] = NONE;
                last[c] = NONE;
                wetSteps[c] = 0;
                lasting[c] = 0;
                longest[c] = 0;
                frosty[c] = NONE;
            }
        }

        void look(Run run, int t) {
            for (int c = 0; c < run.cells && c < CELLS; c++) {
                if (run.waterOf(c) > 0) {
                    seeWet(c, t, run.warmthOf(c) < 0);
                } else {
                    lasting[c] = 0;
                }
            }
        }

        private void seeWet(int c, int t, boolean freezing) {
            first[c] = first[c] == NONE ? t : first[c];
            last[c] = t;
            wetSteps[c]++;
            lasting[c]++;
            longest[c] = Math.max(longest[c], lasting[c]);
            frosty[c] = freezing && frosty[c] == NONE ? t : frosty[c];
        }

        int tell(int[] seen, int c) {
            return c >= 0 && c < seen.length ? seen[c] : NONE;
        }

        int longSpells(int n, int cells) {
            int many = 0;
            for (int c = 0; c < cells && c < CELLS; c++) {
                many += longest[c] >= n ? 1 : 0;
            }
            return many;
        }
    }

    /** Ways from CELL to CELL by the four sides. */
    private static final class Paths {
        static final int FAR = 1000000000;

        final int[] cost = new int[CELLS];

        /** How many wet CELLS one comes to from a CELL by wet ones. */
        int wetAround(Run run, Ground ground, int from) {
            if (run.waterOf(from) == 0) {
                return 0;
            }
            spread(run, ground, from, true);
            int cells = ground.size();
            int many = 0;
            for (int c = 0; c < cells && c < CELLS; c++) {
                many += cost[c] < FAR ? 1 : 0;
            }
            return many;
        }

        int leastWater(Run run, Ground ground, int from, int to) {
            spread(run, ground, from, false);
            return to >= 0 && to < CELLS ? cost[to] : NONE;
        }

        /** Sets for each CELL the least WATER from the first one to it; FAR: there is no way. */
        private void spread(Run run, Ground ground, int from, boolean wetOnly) {
            for (int c = 0; c < CELLS; c++) {
                cost[c] = c == from ? run.waterOf(c) : FAR;
            }
            int cells = ground.size();
            boolean cheaper = true;
            // A best way treads no CELL twice, so that so many rounds find them all.
            for (int round = 0; round < CELLS && cheaper; round++) {
                cheaper = false;
                for (int c = 0; c < cells && c < CELLS; c++) {
                    int water = run.waterOf(c);
                    int way = water > 0 || !wetOnly ? leastBeside(ground, c) + water : FAR;
                    if (way < cost[c]) {
                        cost[c] = way;
                        cheaper = true;
                    }
                }
            }
        }

        private int leastBeside(Ground ground, int c) {
            if (ground.columns < 1) {
                return FAR;
            }
            int x = c % ground.columns;
            int y = c / ground.columns;
            int northSouth = Math.min(costAt(ground, x, y - 1), costAt(ground, x, y + 1));
            int eastWest = Math.min(costAt(ground, x + 1, y), costAt(ground, x - 1, y));
            return Math.min(northSouth, eastWest);
        }

        private int costAt(Ground ground, int x, int y) {
            int c = ground.cellAt(x, y);
            return c >= 0 && c < CELLS ? cost[c] : FAR;
        }
    }

    /** All that an image keeps. */
    private static final class State {
        boolean there;
        final Ground ground = new Ground();
        final Night[] nights = new Night[SLOTS];
        final Plan plan = new Plan();
        final Run run = new Run();

        State() {
            for (int slot = 0; slot < SLOTS; slot++) {
                nights[slot] = new Night();
            }
        }

        Night nightOf(int slot) {
            return slot >= 0 && slot < SLOTS ? nights[slot] : null;
        }

        int slotsWithNight() {
            int slots = 0;
            for (int slot = 0; slot < SLOTS; slot++) {
                Night night = nightOf(slot);
                slots |= night != null && night.there ? 1 << slot : 0;
            }
            return slots;
        }

        void take(Ground told) {
            ground.copyFrom(told);
            plan.lines = 0;
            run.going = false;
            for (int slot = 0; slot < SLOTS; slot++) {
                Night night = nightOf(slot);
                if (night != null) {
                    night.there = false;
                }
            }
        }

        void copyFrom(State other) {
            ground.copyFrom(other.ground);
            plan.copyFrom(other.plan);
            run.copyFrom(other.run);
            for (int slot = 0; slot < SLOTS; slot++) {
                Night mine = nightOf(slot);
                Night theirs = other.nightOf(slot);
                if (mine != null && theirs != null) {
                    mine.copyFrom(theirs);
                }
            }
        }
    }
}
