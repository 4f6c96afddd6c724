import java.util.Arrays;

/** A room of things and of buttons that change them, told as a text; ../shared/DOC.md says what each call answers. */
public final class FiveRemotes {
    public static final int UNKNOWN = -1, OUTSIDE = -2, STATE = -3, FULL = -4, NONE = -9;

    private static final int MOST_LETTERS = 44, MOST_LETTER = 255;
    private static final int MOST_THINGS = 4, LEAST_STATES = 2, MOST_STATES = 4;
    private static final int MOST_BUTTONS = 6, SET = 1, SHARED = 2, NEEDS = 3;
    private static final int THING_LETTERS = 3, BUTTON_LETTERS = 4;
    private static final int MOST_PRESSES = 6, MOST_SURE_ROW = 666, MOST_ROW_FIGURES = 9;
    private static final int MOST_ACTS = 14, SLOTS = 2, MOST_SEEN = 6, MOST_SEEN_PRESSES = 3, MOST_LIGHTS = 15;
    private static final int TENTHS = 10, MOST_EVENINGS = 30, EVENING_DIVISOR = 7, EVENING_SHIFT = 33;
    private static final long EVENING_FACTOR = 6364136223846793005L, EVENING_MORE = 1442695040888963407L;

    /** A CODE is a MESS with two bits for each THING, the first THING uppermost: codes are ordered as messes are. */
    private static final int CODES = 256, CODE_BITS = 2, CODE_MASK = 3, MISSING = -1;

    private static final int[] TENS = {1, 10, 100, 1000, 10000, 100000, 1000000};
    private static final int[] ORDERS = {1, 1, 2, 6, 24, 120, 720};

    private final Text text = new Text();
    private final Reader reader = new Reader();
    private final Plan plan = new Plan();
    private final Paths paths = new Paths();
    private final Row presses = new Row();
    private final Standing now = new Standing();
    private final Shelf acts = new Shelf(MOST_ACTS);
    private final Shelf slots = new Shelf(SLOTS);
    private final Seen seen = new Seen();
    private final int[] likeLights = new int[MOST_LIGHTS + 1];
    private final int[] chances = new int[MOST_PRESSES + 1];
    private int actCount;
    private long theSeed;

    public FiveRemotes() {
        plan.make(new Parts());
        paths.make(plan);
    }

    // ---- the room

    public int write(int letter) {
        if (letter < 0 || letter > MOST_LETTER) return OUTSIDE;
        if (text.isFull()) return FULL;
        text.append(letter);
        return text.size();
    }

    public int wipe() {
        int length = text.size();
        text.empty();
        return length;
    }

    public int fault() {
        return reader.firstFault(text);
    }

    public int room() {
        if (reader.firstFault(text) != NONE) return STATE;
        plan.make(reader.told);
        paths.make(plan);
        now.is = plan.firstCode();
        now.believed = now.is;
        now.presses = 0;
        actCount = 0;
        slots.empty();
        return 10 * plan.things() + plan.buttons();
    }

    public int thing(int thing, int what) {
        if (!plan.hasThing(thing)) return UNKNOWN;
        switch (what) {
            case 0: return plan.statesOf(thing);
            case 1: return plan.stateIn(now.is, thing);
            case 2: return plan.stateIn(now.believed, thing);
            default: return OUTSIDE;
        }
    }

    public int button(int button, int what) {
        if (!plan.hasButton(button)) return UNKNOWN;
        switch (what) {
            case 0: return at(plan.parts.targets, button);
            case 1: return at(plan.parts.kinds, button);
            case 2: return at(plan.parts.extras, button);
            default: return OUTSIDE;
        }
    }

    // ---- acts

    public int press(int button) {
        if (!plan.hasButton(button)) return UNKNOWN;
        rememberAct();
        now.is = plan.behind(now.is, button);
        now.believed = plan.behind(now.believed, button);
        now.presses++;
        return plan.messOf(now.is);
    }

    public int miss(int button) {
        if (!plan.hasButton(button)) return UNKNOWN;
        rememberAct();
        now.believed = plan.behind(now.believed, button);
        now.presses++;
        return plan.messOf(now.believed);
    }

    public int step(int thing) {
        if (!plan.hasThing(thing)) return UNKNOWN;
        rememberAct();
        now.is = plan.stepped(now.is, thing);
        return plan.stateIn(now.is, thing);
    }

    public int find() {
        int otherwise = 0;
        for (int thing = 0; thing < plan.things(); thing++) {
            if (plan.stateIn(now.is, thing) != plan.stateIn(now.believed, thing)) otherwise++;
        }
        if (otherwise == 0) return STATE;
        rememberAct();
        now.believed = now.is;
        return otherwise;
    }

    public int undo() {
        if (actCount == 0) return STATE;
        actCount--;
        acts.fetch(actCount, now);
        return actCount;
    }

    // ---- presses

    public int after(int n, int row) {
        if (n < 1 || n > MOST_PRESSES || !isRow(n, row)) return OUTSIDE;
        presses.read(n, row);
        if (!presses.isKnownTo(plan)) return STATE;
        return plan.messOf(presses.behind(plan, now.is));
    }

    public int all() {
        int code = now.is;
        for (int button = 0; button < plan.buttons(); button++) {
            code = plan.behind(code, button);
        }
        return plan.messOf(code);
    }

    public int fewest(int mess, boolean row) {
        int code = plan.codeOf(mess);
        if (code == MISSING) return OUTSIDE;
        paths.spread(code, plan.everyButton());
        int least = paths.distanceOf(now.is);
        if (least == MISSING) return NONE;
        return row ? firstShortest(least) : least;
    }

    public int worst(int mess, int what) {
        int code = plan.codeOf(mess);
        if (code == MISSING || what < 0 || what > 1) return OUTSIDE;
        int can = paths.spread(code, plan.everyButton());
        return what == 1 ? can : paths.greatestDistance();
    }

    public int sure(int mess, boolean row) {
        int code = plan.codeOf(mess);
        if (code == MISSING) return OUTSIDE;
        for (int told = 0; told <= MOST_SURE_ROW; told++) {
            presses.read(figuresOf(told), told);
            if (presses.isKnownTo(plan) && presses.bringsAll(plan, code)) {
                return row ? told : figuresOf(told);
            }
        }
        return NONE;
    }

    public int needed(int mess) {
        int code = plan.codeOf(mess);
        if (code == MISSING) return OUTSIDE;
        for (int many = 0; many <= plan.buttons(); many++) {
            for (int chosen = 0; chosen <= plan.everyButton(); chosen++) {
                if (Integer.bitCount(chosen) == many && reaches(code, chosen)) return chosen;
            }
        }
        return NONE;
    }

    public int judge(int n, int row) {
        if (n < 1 || n > MOST_PRESSES || !isRow(n, row)) return OUTSIDE;
        presses.read(n, row);
        int code = now.is;
        for (int place = 0; place < n; place++) {
            int button = presses.buttonAt(place);
            int next = plan.hasButton(button) ? plan.behind(code, button) : code;
            if (next == code) return place;
            code = next;
        }
        return NONE;
    }

    // ---- seen

    public int see(int n, int row, int lights) {
        if (n < 0 || n > MOST_SEEN_PRESSES || !isRow(n, row)) return OUTSIDE;
        if (lights < 0 || lights > MOST_LIGHTS) return OUTSIDE;
        if (seen.count >= MOST_SEEN) return FULL;
        seen.add(n, row, lights);
        return seen.count;
    }

    public int unsee() {
        int were = seen.count;
        seen.count = 0;
        return were;
    }

    public int may(int what) {
        if (what < 0 || what > 2) return OUTSIDE;
        seen.narrow(plan, presses);
        if (what == 0) return seen.left;
        if (seen.left == 0) return NONE;
        return what == 1 ? plan.messOf(at(seen.codes, 0)) : thingsInOneState();
    }

    public int tells(boolean many) {
        seen.narrow(plan, presses);
        if (seen.left == 0) return NONE;
        int best = NONE;
        int fewest = NONE;
        for (int button = 0; button < plan.buttons(); button++) {
            int alike = mostAlikeBehind(button);
            if (best == NONE || alike < fewest) {
                best = button;
                fewest = alike;
            }
        }
        return many ? fewest : best;
    }

    // ---- shares, rests, chances

    public int share(int button, int mess, boolean upper) {
        if (!plan.hasButton(button)) return UNKNOWN;
        int code = plan.codeOf(mess);
        if (code == MISSING) return OUTSIDE;
        int own = 1 << button;
        int above = 0;
        for (int come = 0; come <= plan.everyButton(); come++) {
            if ((come & own) == 0) {
                int more = paths.spread(code, come | own) - paths.spread(code, come);
                above += more * ordersAround(Integer.bitCount(come));
            }
        }
        return fraction(above, at(ORDERS, plan.buttons()), upper);
    }

    public int rests(int t, int v, int u, int w, int what) {
        if (!plan.hasThing(t) || !plan.hasThing(u)) return UNKNOWN;
        if (v < 0 || v >= plan.statesOf(t) || w < 0 || w >= plan.statesOf(u)) return OUTSIDE;
        if (what < 0 || what > 1) return OUTSIDE;
        int many = 0;
        int firstPair = NONE;
        for (int one = 0; one <= plan.buttons(); one++) {
            for (int other = 0; other <= plan.buttons(); other++) {
                if (firstRests(one, other, t, v) && secondRests(one, other, u, w)) {
                    if (many == 0) firstPair = 10 * one + other;
                    many++;
                }
            }
        }
        return what == 0 ? many : firstPair;
    }

    public int weak(int button, int n, int mess, int x, boolean upper) {
        if (!plan.hasButton(button)) return UNKNOWN;
        int code = plan.codeOf(mess);
        if (n < 1 || n > MOST_PRESSES || code == MISSING || x < 0 || x > TENTHS) return OUTSIDE;
        tellChances(n, x);
        int reached = now.is;
        int above = 0;
        for (int hits = 0; hits <= n; hits++) {
            if (reached == code) above += at(chances, hits);
            reached = plan.behind(reached, button);
        }
        return fraction(above, at(TENS, n), upper);
    }

    public long seed(long v) {
        long was = theSeed;
        theSeed = v;
        return was;
    }

    public int evenings(int k) {
        if (k < 1 || k > MOST_EVENINGS) return OUTSIDE;
        int code = now.is;
        int together = 0;
        for (int time = 0; time < k; time++) {
            theSeed = theSeed * EVENING_FACTOR + EVENING_MORE;
            int button = (int) ((theSeed >>> EVENING_SHIFT) % EVENING_DIVISOR);
            if (plan.hasButton(button)) code = plan.behind(code, button);
            together += Integer.bitCount(plan.lightsIn(code));
        }
        return together;
    }

    // ---- slots

    public int keep(int slot) {
        if (slot < 0 || slot >= SLOTS) return UNKNOWN;
        slots.store(slot, now);
        return now.presses;
    }

    public int again(int slot) {
        if (slot < 0 || slot >= SLOTS) return UNKNOWN;
        if (!slots.holds(slot)) return STATE;
        slots.fetch(slot, now);
        actCount = 0;
        return now.presses;
    }

    public int count(int what) {
        switch (what) {
            case 0: return text.size();
            case 1: return plan.things();
            case 2: return plan.buttons();
            case 3: return plan.messOf(now.is);
            case 4: return plan.messOf(now.believed);
            case 5: return plan.lightsIn(now.is);
            case 6: return now.presses;
            case 7: return actCount;
            case 8: return seen.count;
            default: return OUTSIDE;
        }
    }

    // ---- what the calls use

    private void rememberAct() {
        if (actCount == MOST_ACTS) {
            acts.forgetFirst();
        } else {
            actCount++;
        }
        acts.store(actCount - 1, now);
    }

    /** Goes down the distances that were spread last, always by the least button: the least number of all such rows. */
    private int firstShortest(int least) {
        if (least > MOST_ROW_FIGURES) return NONE;
        int code = now.is;
        int row = 0;
        for (int left = least; left > 0; left--) {
            int button = firstNearer(code, left - 1);
            row = row * 10 + button + 1;
            code = plan.behind(code, button);
        }
        return row;
    }

    private int firstNearer(int code, int distance) {
        for (int button = 0; button < plan.buttons(); button++) {
            if (paths.distanceOf(plan.behind(code, button)) == distance) return button;
        }
        return MISSING;
    }

    private boolean reaches(int code, int chosen) {
        paths.spread(code, chosen);
        return paths.distanceOf(now.is) != MISSING;
    }

    private int thingsInOneState() {
        int first = at(seen.codes, 0);
        int otherwise = 0;
        for (int i = 1; i < seen.left; i++) {
            otherwise |= at(seen.codes, i) ^ first;
        }
        int things = 0;
        for (int thing = 0; thing < plan.things(); thing++) {
            if (plan.stateIn(otherwise, thing) == 0) things |= 1 << thing;
        }
        return things;
    }

    private int mostAlikeBehind(int button) {
        Arrays.fill(likeLights, 0);
        int most = 0;
        for (int i = 0; i < seen.left; i++) {
            int lights = plan.lightsIn(plan.behind(at(seen.codes, i), button));
            int alike = at(likeLights, lights) + 1;
            put(likeLights, lights, alike);
            most = Math.max(most, alike);
        }
        return most;
    }

    /** In how many orders of all buttons so many, and just these, come ahead of one button. */
    private int ordersAround(int ahead) {
        return at(ORDERS, ahead) * at(ORDERS, plan.buttons() - 1 - ahead);
    }

    private boolean firstRests(int one, int other, int thing, int wish) {
        int loss = lossOf(one, other, thing, wish) + priceOf(one);
        for (int choice = 0; choice <= plan.buttons(); choice++) {
            if (lossOf(choice, other, thing, wish) + priceOf(choice) < loss) return false;
        }
        return true;
    }

    private boolean secondRests(int one, int other, int thing, int wish) {
        int loss = lossOf(one, other, thing, wish) + priceOf(other);
        for (int choice = 0; choice <= plan.buttons(); choice++) {
            if (lossOf(one, choice, thing, wish) + priceOf(choice) < loss) return false;
        }
        return true;
    }

    private int lossOf(int one, int other, int thing, int wish) {
        int code = behindChoice(behindChoice(now.is, one), other);
        return Math.abs(plan.stateIn(code, thing) - wish);
    }

    private int behindChoice(int code, int choice) {
        return choice == 0 ? code : plan.behind(code, choice - 1);
    }

    private static int priceOf(int choice) {
        return choice == 0 ? 0 : 1;
    }

    /** Chances of 0 to n presses that are not missed, each in parts of 10 to the power n. */
    private void tellChances(int n, int missed) {
        Arrays.fill(chances, 0);
        put(chances, 0, 1);
        for (int time = 0; time < n; time++) {
            for (int hits = n; hits >= 0; hits--) {
                int hit = hits == 0 ? 0 : at(chances, hits - 1) * (TENTHS - missed);
                put(chances, hits, at(chances, hits) * missed + hit);
            }
        }
    }

    private static int fraction(int above, int below, boolean upper) {
        int common = commonDivisor(above, below);
        if (common == 0) return NONE;
        return (upper ? above : below) / common;
    }

    private static int commonDivisor(int a, int b) {
        int greater = a;
        int lesser = b;
        // 64 rounds are more than two ints can need: each second round at least halves them
        for (int round = 0; round < 64 && lesser != 0; round++) {
            int rest = greater % lesser;
            greater = lesser;
            lesser = rest;
        }
        return greater;
    }

    private static boolean isRow(int n, int row) {
        return row >= 0 && row < at(TENS, n);
    }

    /** Of 0 there are no figures: the row without presses. */
    private static int figuresOf(int row) {
        int figures = 0;
        while (figures < MOST_PRESSES && row >= at(TENS, figures)) {
            figures++;
        }
        return figures;
    }

    private static int at(int[] cells, int place) {
        return cells != null && place >= 0 && place < cells.length ? cells[place] : 0;
    }

    private static void put(int[] cells, int place, int value) {
        if (cells != null && place >= 0 && place < cells.length) cells[place] = value;
    }

    /** THE TEXT. */
    private static final class Text {
        private final int[] letters = new int[MOST_LETTERS];
        private int length;

        int size() {
            return length;
        }

        boolean isFull() {
            return length >= MOST_LETTERS;
        }

        void append(int letter) {
            put(letters, length, letter);
            length++;
        }

        void empty() {
            length = 0;
        }

        int letterAt(int place) {
            return place >= 0 && place < length ? at(letters, place) : MISSING;
        }

        int figureAt(int place) {
            int letter = letterAt(place);
            return letter >= '0' && letter <= '9' ? letter - '0' : MISSING;
        }
    }

    /** The things and the buttons, as they are told. */
    private static final class Parts {
        private int things;
        private int buttons;
        private final int[] states = new int[MOST_THINGS];
        private final int[] firsts = new int[MOST_THINGS];
        private final int[] targets = new int[MOST_BUTTONS];
        private final int[] kinds = new int[MOST_BUTTONS];
        private final int[] extras = new int[MOST_BUTTONS];

        void addThing(int itsStates, int first) {
            put(states, things, itsStates);
            put(firsts, things, first);
            things++;
        }

        void addButton(int thing, int kind, int extra) {
            put(targets, buttons, thing);
            put(kinds, buttons, kind);
            put(extras, buttons, extra);
            buttons++;
        }

        void copy(Parts told) {
            things = 0;
            buttons = 0;
            for (int thing = 0; thing < told.things; thing++) {
                addThing(at(told.states, thing), at(told.firsts, thing));
            }
            for (int button = 0; button < told.buttons; button++) {
                addButton(at(told.targets, button), at(told.kinds, button), at(told.extras, button));
            }
        }
    }

    /** Reads THE TEXT for its first fault; if there is none, told holds its parts. */
    private static final class Reader {
        private final Parts told = new Parts();

        int firstFault(Text text) {
            told.things = 0;
            told.buttons = 0;
            if (text.letterAt(0) != 'R') return 0;
            int place = 1;
            while (place < text.size()) {
                int kind = text.letterAt(place);
                int whole = kind == 'T' ? THING_LETTERS : BUTTON_LETTERS;
                int good = kind == 'T' ? readThing(text, place) : kind == 'B' ? readButton(text, place) : 0;
                if (good < whole) return place + good;
                place += whole;
            }
            return NONE;
        }

        /** How many letters of the part stand as they may; a letter that is not there yet is one that may not. */
        private int readThing(Text text, int place) {
            if (told.things >= MOST_THINGS) return 0;
            int states = text.figureAt(place + 1);
            if (states < LEAST_STATES || states > MOST_STATES) return 1;
            int first = text.figureAt(place + 2);
            if (first < 0 || first >= states) return 2;
            told.addThing(states, first);
            return THING_LETTERS;
        }

        private int readButton(Text text, int place) {
            if (told.buttons >= MOST_BUTTONS || told.things == 0) return 0;
            int thing = text.figureAt(place + 1);
            if (thing < 0 || thing >= told.things) return 1;
            int kind = text.figureAt(place + 2);
            if (kind < 0 || kind > NEEDS || (kind == NEEDS && told.things < 2)) return 2;
            int extra = text.figureAt(place + 3);
            if (extra < 0 || !mayBeExtra(thing, kind, extra)) return 3;
            told.addButton(thing, kind, extra);
            return BUTTON_LETTERS;
        }

        private boolean mayBeExtra(int thing, int kind, int extra) {
            switch (kind) {
                case SET: return extra < at(told.states, thing);
                case NEEDS: return extra < told.things && extra != thing;
                default: return extra == 0;
            }
        }
    }

    /** THE ROOM: its parts, and what each button does to each code. */
    private static final class Plan {
        private final Parts parts = new Parts();
        private final int[] messes = new int[CODES];
        private final int[] lights = new int[CODES];
        private final int[] nexts = new int[CODES * MOST_BUTTONS];
        private int codes;

        void make(Parts told) {
            parts.copy(told);
            codes = 1 << (CODE_BITS * parts.things);
            for (int code = 0; code < codes; code++) {
                tellCode(code);
            }
        }

        private void tellCode(int code) {
            int mess = 0;
            int shining = 0;
            boolean real = true;
            for (int thing = 0; thing < parts.things; thing++) {
                int state = stateIn(code, thing);
                mess = mess * 10 + state;
                if (state != 0) shining |= 1 << thing;
                if (state >= statesOf(thing)) real = false;
            }
            put(messes, code, real ? mess : MISSING);
            put(lights, code, shining);
            for (int button = 0; button < parts.buttons; button++) {
                put(nexts, code * MOST_BUTTONS + button, real ? done(code, button) : code);
            }
        }

        private int done(int code, int button) {
            int thing = at(parts.targets, button);
            int extra = at(parts.extras, button);
            switch (at(parts.kinds, button)) {
                case SET: return with(code, thing, extra);
                case SHARED: return switched(code, thing);
                case NEEDS: return stateIn(code, extra) == 0 ? code : stepped(code, thing);
                default: return stepped(code, thing);
            }
        }

        private int switched(int code, int first) {
            int changed = code;
            for (int thing = first; thing < parts.things; thing++) {
                changed = with(changed, thing, stateIn(code, thing) == 0 ? 1 : 0);
            }
            return changed;
        }

        int stepped(int code, int thing) {
            int state = stateIn(code, thing) + 1;
            return with(code, thing, state < statesOf(thing) ? state : 0);
        }

        private int with(int code, int thing, int state) {
            int shift = shiftOf(thing);
            return (code & ~(CODE_MASK << shift)) | (state << shift);
        }

        private int shiftOf(int thing) {
            return CODE_BITS * (parts.things - 1 - thing);
        }

        int stateIn(int code, int thing) {
            return (code >> shiftOf(thing)) & CODE_MASK;
        }

        int firstCode() {
            int code = 0;
            for (int thing = 0; thing < parts.things; thing++) {
                code = with(code, thing, at(parts.firsts, thing));
            }
            return code;
        }

        /** The code of a mess, or MISSING for figures of which one is no state of its thing. */
        int codeOf(int mess) {
            int left = mess;
            int code = 0;
            for (int thing = parts.things - 1; thing >= 0; thing--) {
                int state = left % 10;
                if (state < 0 || state >= statesOf(thing)) return MISSING;
                code = with(code, thing, state);
                left /= 10;
            }
            return left == 0 ? code : MISSING;
        }

        int behind(int code, int button) {
            return at(nexts, code * MOST_BUTTONS + button);
        }

        boolean isReal(int code) {
            return messOf(code) != MISSING;
        }

        int messOf(int code) {
            return at(messes, code);
        }

        int lightsIn(int code) {
            return at(lights, code);
        }

        int things() {
            return parts.things;
        }

        int buttons() {
            return parts.buttons;
        }

        int everyButton() {
            return (1 << parts.buttons) - 1;
        }

        boolean hasThing(int thing) {
            return thing >= 0 && thing < parts.things;
        }

        boolean hasButton(int button) {
            return button >= 0 && button < parts.buttons;
        }

        int statesOf(int thing) {
            return at(parts.states, thing);
        }
    }

    /** From which codes, and by how few presses, one code is reached. */
    private static final class Paths {
        /** Edges into a code stand from its start to the next code's start; an edge is a code times MOST_BUTTONS and a button. */
        private final int[] starts = new int[CODES + 1];
        private final int[] edges = new int[CODES * MOST_BUTTONS];
        private final int[] distances = new int[CODES];
        private final int[] reached = new int[CODES];
        private int many;

        void make(Plan plan) {
            Arrays.fill(starts, 0);
            for (int code = 0; code < plan.codes; code++) {
                for (int button = 0; button < plan.buttons(); button++) {
                    int next = plan.behind(code, button);
                    if (next != code) put(starts, next, at(starts, next) + 1);
                }
            }
            for (int code = 1; code <= CODES; code++) {
                put(starts, code, at(starts, code) + at(starts, code - 1));
            }
            fillFromTheEnds(plan);
        }

        /** Each start stands at its end first, and comes down by one with each edge. */
        private void fillFromTheEnds(Plan plan) {
            for (int code = 0; code < plan.codes; code++) {
                for (int button = 0; button < plan.buttons(); button++) {
                    int next = plan.behind(code, button);
                    if (next != code) {
                        int place = at(starts, next) - 1;
                        put(starts, next, place);
                        put(edges, place, code * MOST_BUTTONS + button);
                    }
                }
            }
        }

        /** Of how many codes the target is reached by the chosen buttons (bits) alone. */
        int spread(int target, int chosen) {
            Arrays.fill(distances, MISSING);
            put(distances, target, 0);
            put(reached, 0, target);
            many = 1;
            for (int i = 0; i < CODES && i < many; i++) {
                reachFrom(at(reached, i), chosen);
            }
            return many;
        }

        private void reachFrom(int code, int chosen) {
            int end = at(starts, code + 1);
            for (int i = at(starts, code); i < end; i++) {
                int edge = at(edges, i);
                int from = edge / MOST_BUTTONS;
                int button = edge % MOST_BUTTONS;
                if (((chosen >> button) & 1) == 1 && at(distances, from) == MISSING) {
                    put(distances, from, at(distances, code) + 1);
                    put(reached, many, from);
                    many++;
                }
            }
        }

        int distanceOf(int code) {
            return at(distances, code);
        }

        int greatestDistance() {
            return at(distances, at(reached, many - 1));
        }
    }

    /** A ROW of presses, by its figures. */
    private static final class Row {
        private final int[] figures = new int[MOST_PRESSES];
        private int length;

        void read(int n, int row) {
            length = n;
            int left = row;
            for (int place = n - 1; place >= 0; place--) {
                put(figures, place, left % 10);
                left /= 10;
            }
        }

        int buttonAt(int place) {
            return at(figures, place) - 1;
        }

        boolean isKnownTo(Plan plan) {
            for (int place = 0; place < length; place++) {
                if (!plan.hasButton(buttonAt(place))) return false;
            }
            return true;
        }

        int behind(Plan plan, int code) {
            int reached = code;
            for (int place = 0; place < length; place++) {
                reached = plan.behind(reached, buttonAt(place));
            }
            return reached;
        }

        boolean bringsAll(Plan plan, int target) {
            for (int code = 0; code < plan.codes; code++) {
                if (plan.isReal(code) && behind(plan, code) != target) return false;
            }
            return true;
        }
    }

    /** What is, what is believed, and how many presses were counted. */
    private static final class Standing {
        private int is;
        private int believed;
        private int presses;
    }

    /** Standings that are put away by place. */
    private static final class Shelf {
        private final int[] is;
        private final int[] believed;
        private final int[] presses;

        Shelf(int places) {
            int most = Math.max(places, 0);
            is = new int[most];
            believed = new int[most];
            presses = new int[most];
            Arrays.fill(presses, MISSING);
        }

        void store(int place, Standing standing) {
            put(is, place, standing.is);
            put(believed, place, standing.believed);
            put(presses, place, standing.presses);
        }

        void fetch(int place, Standing standing) {
            standing.is = at(is, place);
            standing.believed = at(believed, place);
            standing.presses = at(presses, place);
        }

        boolean holds(int place) {
            return at(presses, place) != MISSING;
        }

        void empty() {
            Arrays.fill(presses, MISSING);
        }

        void forgetFirst() {
            for (int place = 1; place < presses.length; place++) {
                put(is, place - 1, at(is, place));
                put(believed, place - 1, at(believed, place));
                put(presses, place - 1, at(presses, place));
            }
        }
    }

    /** All that is SEEN, and the codes that it leaves. */
    private static final class Seen {
        private final int[] lengths = new int[MOST_SEEN];
        private final int[] rows = new int[MOST_SEEN];
        private final int[] lights = new int[MOST_SEEN];
        private final int[] codes = new int[CODES];
        private int count;
        private int left;

        void add(int n, int row, int itsLights) {
            put(lengths, count, n);
            put(rows, count, row);
            put(lights, count, itsLights);
            count++;
        }

        void narrow(Plan plan, Row row) {
            left = 0;
            for (int code = 0; code < plan.codes; code++) {
                if (plan.isReal(code)) {
                    put(codes, left, code);
                    left++;
                }
            }
            for (int i = 0; i < count; i++) {
                row.read(at(lengths, i), at(rows, i));
                if (row.isKnownTo(plan) && at(lights, i) < 1 << plan.things()) {
                    narrowBy(plan, row, at(lights, i));
                }
            }
        }

        private void narrowBy(Plan plan, Row row, int shining) {
            int stay = 0;
            for (int i = 0; i < left; i++) {
                int code = at(codes, i);
                if (plan.lightsIn(row.behind(plan, code)) == shining) {
                    put(codes, stay, code);
                    stay++;
                }
            }
            left = stay;
        }
    }
}
