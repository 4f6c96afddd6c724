import java.math.BigInteger;
import java.util.ArrayDeque;
import java.util.ArrayList;
import java.util.Deque;
import java.util.HashMap;
import java.util.List;
import java.util.Map;
import java.util.Random;
import java.util.TreeMap;
import java.util.TreeSet;

/** Random runs of 512 calls, each answer held against a slow model that is written otherwise than the class. */
public final class ModelTest {
    private static final int RUNS = 60;
    private static final int CALLS = 512;
    private static int wrong = 0;

    private ModelTest() { }

    public static void main(String[] args) {
        Map<String, Integer> asked = new TreeMap<>();
        for (int run = 0; run < RUNS && wrong < 20; run++) {
            new Run(run, asked).go();
        }
        if (asked.size() != 31 - 1) {
            wrong++;
            System.out.println("calls that were asked: " + asked);
        }
        System.out.println("model: " + RUNS + " runs, " + wrong + " wrong");
        if (wrong != 0) System.exit(1);
    }

    private static final class Run {
        private final int run;
        private final Random random;
        private final Map<String, Integer> asked;
        private final FiveRemotes x = new FiveRemotes();
        private final Model model = new Model();
        private int calls = 0;
        private boolean failed = false;

        Run(int run, Map<String, Integer> asked) {
            this.run = run;
            this.random = new Random(run);
            this.asked = asked;
        }

        void go() {
            tellRoom();
            while (calls < CALLS && !failed) {
                int which = random.nextInt(100);
                if (which == 0) tellRoom();
                else if (which < 4) write(random.nextInt(12) == 0 ? random.nextInt(300) - 20 : letter());
                else call(random.nextInt(28));
            }
        }

        private void same(String name, String call, long got, long due) {
            calls++;
            asked.merge(name, 1, Integer::sum);
            if (got == due) return;
            wrong++;
            failed = true;
            System.out.println("run " + run + ", call " + calls + ": " + call + " answered " + got + ", the model says " + due
                    + " in " + model.text + " at " + model.mess(model.is) + "/" + model.mess(model.believed));
        }

        private int letter() {
            return "RTTBB0012345".charAt(random.nextInt(12));
        }

        private void write(int letter) {
            if (calls < CALLS) same("write", "write(" + letter + ")", x.write(letter), model.write(letter));
        }

        private void tellRoom() {
            if (calls > CALLS - 60) {
                calls = CALLS;
                return;
            }
            same("wipe", "wipe()", x.wipe(), model.wipe());
            String text = randomText();
            for (int i = 0; i < text.length(); i++) write(text.charAt(i));
            same("fault", "fault()", x.fault(), model.fault());
            same("room", "room()", x.room(), model.room());
        }

        private String randomText() {
            StringBuilder text = new StringBuilder("R");
            int things = random.nextInt(20) == 0 ? 0 : 1 + random.nextInt(4);
            int[] states = new int[4];
            int told = 0;
            int buttons = random.nextInt(7);
            int parts = things + buttons;
            for (int part = 0, pressed = 0; part < parts && things > 0; part++) {
                boolean thing = told == 0 || told < things && (pressed == buttons || random.nextInt(3) > 0);
                if (thing) {
                    states[told] = random.nextInt(3) + 2;
                    text.append('T').append(states[told]).append(random.nextInt(states[told]));
                    told++;
                } else {
                    text.append('B').append(randomButton(told, states));
                    pressed++;
                }
            }
            if (random.nextInt(6) == 0) text.setCharAt(random.nextInt(text.length()), (char) letter());
            if (random.nextInt(10) == 0) text.setLength(random.nextInt(text.length() + 1));
            return text.toString();
        }

        private String randomButton(int told, int[] states) {
            int thing = random.nextInt(told);
            int kind = random.nextInt(told > 1 ? 4 : 3);
            int extra = kind == 1 ? random.nextInt(states[thing]) : 0;
            if (kind == 3) extra = (thing + 1 + random.nextInt(told - 1)) % told;
            return "" + thing + kind + extra;
        }

        /** A number of 0 to most less 1 as a rule, at times one beside them. */
        private int near(int most) {
            int odd = random.nextInt(25);
            if (odd == 0) return -1;
            if (odd == 1) return most;
            if (odd == 2) return random.nextInt();
            return random.nextInt(Math.max(most, 1));
        }

        private int mess() {
            int odd = random.nextInt(30);
            if (odd == 0) return random.nextInt(5000) - 50;
            if (odd == 1) return model.mess(model.is) + 10000;
            List<int[]> all = model.messes();
            return model.mess(all.get(random.nextInt(all.size())));
        }

        private int row(int n) {
            int odd = random.nextInt(40);
            if (odd == 0) return random.nextInt();
            if (odd == 1) return (int) Math.pow(10, Math.max(0, Math.min(n, 8)));
            int row = 0;
            for (int i = 0; i < n && i < 6; i++) {
                int figure = random.nextInt(30) == 0 ? random.nextInt(10) : 1 + random.nextInt(Math.max(1, model.buttons.size()));
                row = 10 * row + figure;
            }
            return row;
        }

        private void call(int which) {
            int things = model.states.size();
            int buttons = model.buttons.size();
            boolean flag = random.nextBoolean();
            int a = near(things);
            int b = near(buttons);
            int n = near(7);
            int m = mess();
            int what = near(3);
            switch (which) {
                case 0: same("fault", "fault()", x.fault(), model.fault()); break;
                case 1: same("thing", "thing(" + a + ", " + what + ")", x.thing(a, what), model.thing(a, what)); break;
                case 2: same("button", "button(" + b + ", " + what + ")", x.button(b, what), model.button(b, what)); break;
                case 3: same("press", "press(" + b + ")", x.press(b), model.press(b)); break;
                case 4: same("miss", "miss(" + b + ")", x.miss(b), model.miss(b)); break;
                case 5: same("step", "step(" + a + ")", x.step(a), model.step(a)); break;
                case 6: if (flag) same("find", "find()", x.find(), model.find()); break;
                case 7: same("undo", "undo()", x.undo(), model.undo()); break;
                case 8: rowCall("after", n); break;
                case 9: same("all", "all()", x.all(), model.all()); break;
                case 10: same("fewest", "fewest(" + m + ", " + flag + ")", x.fewest(m, flag), model.fewest(m, flag)); break;
                case 11: int w = near(2); same("worst", "worst(" + m + ", " + w + ")", x.worst(m, w), model.worst(m, w)); break;
                case 12: same("sure", "sure(" + m + ", " + flag + ")", x.sure(m, flag), model.sure(m, flag)); break;
                case 13: same("needed", "needed(" + m + ")", x.needed(m), model.needed(m)); break;
                case 14: rowCall("judge", n); break;
                case 15: seeCall(); break;
                case 16: if (random.nextInt(4) == 0) same("unsee", "unsee()", x.unsee(), model.unsee()); break;
                case 17: same("may", "may(" + what + ")", x.may(what), model.may(what)); break;
                case 18: same("tells", "tells(" + flag + ")", x.tells(flag), model.tells(flag)); break;
                default: laterCall(which, flag, b, m); break;
            }
        }

        private void laterCall(int which, boolean flag, int b, int m) {
            switch (which) {
                case 19: same("share", "share(" + b + ", " + m + ", " + flag + ")", x.share(b, m, flag), model.share(b, m, flag)); break;
                case 20: restsCall(); break;
                case 21: weakCall(b, m, flag); break;
                case 22: long v = random.nextLong(); same("seed", "seed(" + v + ")", x.seed(v), model.seed(v)); break;
                case 23: int k = near(31); same("evenings", "evenings(" + k + ")", x.evenings(k), model.evenings(k)); break;
                case 24: int slot = near(2); same("keep", "keep(" + slot + ")", x.keep(slot), model.keep(slot)); break;
                case 25: slot = near(2); if (flag) same("again", "again(" + slot + ")", x.again(slot), model.again(slot)); break;
                case 26: int what = near(9); same("count", "count(" + what + ")", x.count(what), model.count(what)); break;
                default: if (random.nextInt(8) == 0) same("room", "room()", x.room(), model.room()); break;
            }
        }

        private void rowCall(String name, int n) {
            int row = row(n);
            String call = name + "(" + n + ", " + row + ")";
            if (name.equals("after")) same(name, call, x.after(n, row), model.after(n, row));
            else same(name, call, x.judge(n, row), model.judge(n, row));
        }

        private void seeCall() {
            int n = near(4);
            int row = row(n);
            int lights = random.nextInt(3) == 0 ? near(16) : random.nextInt(1 << model.states.size());
            same("see", "see(" + n + ", " + row + ", " + lights + ")", x.see(n, row, lights), model.see(n, row, lights));
        }

        private void restsCall() {
            int t = near(model.states.size());
            int u = near(model.states.size());
            int v = near(random.nextInt(3) + 2);
            int w = near(random.nextInt(3) + 2);
            int what = near(2);
            String call = "rests(" + t + ", " + v + ", " + u + ", " + w + ", " + what + ")";
            same("rests", call, x.rests(t, v, u, w, what), model.rests(t, v, u, w, what));
        }

        private void weakCall(int b, int m, boolean flag) {
            int n = near(7);
            int tenths = near(11);
            String call = "weak(" + b + ", " + n + ", " + m + ", " + tenths + ", " + flag + ")";
            same("weak", call, x.weak(b, n, m, tenths, flag), model.weak(b, n, m, tenths, flag));
        }
    }

    /** The document told again, by lists and by trying everything. */
    private static final class Model {
        private final StringBuilder text = new StringBuilder();
        private List<Integer> states = new ArrayList<>();
        private List<int[]> buttons = new ArrayList<>();
        private int[] is = {};
        private int[] believed = {};
        private int presses = 0;
        private final Deque<Object[]> acts = new ArrayDeque<>();
        private final Map<Integer, Object[]> kept = new HashMap<>();
        private final List<int[]> seen = new ArrayList<>();
        private BigInteger seed = BigInteger.ZERO;

        int write(int letter) {
            if (letter < 0 || letter > 255) return -2;
            if (text.length() == 44) return -4;
            return text.append((char) letter).length();
        }

        int wipe() {
            int length = text.length();
            text.setLength(0);
            return length;
        }

        int fault() {
            for (int i = 1; i <= text.length(); i++) {
                if (!canBecomeRoom(text.substring(0, i), 3)) return i - 1;
            }
            return isRoom(text.toString()) ? -9 : text.length();
        }

        private static boolean canBecomeRoom(String start, int more) {
            if (isRoom(start)) return true;
            if (more == 0) return false;
            for (char letter : "RTB01234".toCharArray()) {
                if (canBecomeRoom(start + letter, more - 1)) return true;
            }
            return false;
        }

        private static boolean isRoom(String text) {
            if (!text.matches("R(T[2-4][0-3]|B[0-3][0-3][0-3])*")) return false;
            List<Integer> states = new ArrayList<>();
            int buttons = 0;
            int i = 1;
            while (i < text.length()) {
                int p = text.charAt(i + 1) - '0';
                int q = text.charAt(i + 2) - '0';
                if (text.charAt(i) == 'T') {
                    if (q >= p) return false;
                    states.add(p);
                    i += 3;
                    continue;
                }
                int a = text.charAt(i + 3) - '0';
                if (p >= states.size()) return false;
                if (q == 1 && a >= states.get(p)) return false;
                if (q == 3 && (a == p || a >= states.size())) return false;
                if ((q == 0 || q == 2) && a != 0) return false;
                buttons++;
                i += 4;
            }
            return states.size() <= 4 && buttons <= 6;
        }

        int room() {
            if (!isRoom(text.toString())) return -3;
            states = new ArrayList<>();
            buttons = new ArrayList<>();
            List<Integer> first = new ArrayList<>();
            for (int i = 1; i < text.length(); i++) {
                if (text.charAt(i) == 'T') {
                    states.add(text.charAt(i + 1) - '0');
                    first.add(text.charAt(i + 2) - '0');
                } else if (text.charAt(i) == 'B') {
                    buttons.add(new int[] {text.charAt(i + 1) - '0', text.charAt(i + 2) - '0', text.charAt(i + 3) - '0'});
                }
            }
            is = first.stream().mapToInt(Integer::intValue).toArray();
            believed = is.clone();
            presses = 0;
            acts.clear();
            kept.clear();
            return 10 * states.size() + buttons.size();
        }

        int thing(int thing, int what) {
            if (thing < 0 || thing >= states.size()) return -1;
            return what == 0 ? states.get(thing) : what == 1 ? is[thing] : what == 2 ? believed[thing] : -2;
        }

        int button(int button, int what) {
            if (none(button)) return -1;
            return what < 0 || what > 2 ? -2 : buttons.get(button)[what];
        }

        private boolean none(int button) {
            return button < 0 || button >= buttons.size();
        }

        int mess(int[] mess) {
            int number = 0;
            for (int state : mess) number = number * 10 + state;
            return number;
        }

        List<int[]> messes() {
            List<int[]> all = new ArrayList<>();
            for (int number = 0; number < 10000; number++) {
                int[] mess = messOf(number);
                if (mess != null) all.add(mess);
            }
            return all;
        }

        private int[] messOf(int number) {
            if (number < 0) return null;
            String figures = "" + number;
            if (states.isEmpty()) return number == 0 ? new int[0] : null;
            while (figures.length() < states.size()) figures = "0" + figures;
            if (figures.length() > states.size()) return null;
            int[] mess = new int[states.size()];
            for (int i = 0; i < mess.length; i++) {
                mess[i] = figures.charAt(i) - '0';
                if (mess[i] >= states.get(i)) return null;
            }
            return mess;
        }

        private int lights(int[] mess) {
            int lights = 0;
            for (int i = 0; i < mess.length; i++) lights += mess[i] > 0 ? (int) Math.pow(2, i) : 0;
            return lights;
        }

        private int[] pressed(int[] mess, int button) {
            int[] told = buttons.get(button);
            int[] then = mess.clone();
            int t = told[0];
            if (told[1] == 0 || told[1] == 3 && mess[told[2]] > 0) then[t] = (mess[t] + 1) % states.get(t);
            if (told[1] == 1) then[t] = told[2];
            for (int i = t; told[1] == 2 && i < mess.length; i++) then[i] = mess[i] > 0 ? 0 : 1;
            return then;
        }

        private void act() {
            acts.addLast(new Object[] {is, believed, presses});
            if (acts.size() > 14) acts.removeFirst();
        }

        int press(int button) {
            if (none(button)) return -1;
            act();
            is = pressed(is, button);
            believed = pressed(believed, button);
            presses++;
            return mess(is);
        }

        int miss(int button) {
            if (none(button)) return -1;
            act();
            believed = pressed(believed, button);
            presses++;
            return mess(believed);
        }

        int step(int thing) {
            if (thing < 0 || thing >= states.size()) return -1;
            act();
            is = is.clone();
            is[thing] = (is[thing] + 1) % states.get(thing);
            return is[thing];
        }

        int find() {
            int many = 0;
            for (int i = 0; i < is.length; i++) many += is[i] == believed[i] ? 0 : 1;
            if (many == 0) return -3;
            act();
            believed = is;
            return many;
        }

        int undo() {
            if (acts.isEmpty()) return -3;
            goTo(acts.removeLast());
            return acts.size();
        }

        private void goTo(Object[] standing) {
            is = (int[]) standing[0];
            believed = (int[]) standing[1];
            presses = (Integer) standing[2];
        }

        /** The figures of a row, or null if it is not told as the document says. */
        private static int[] figures(int n, int row, int least, int most) {
            if (n < least || n > most || row < 0 || row >= Math.pow(10, n)) return null;
            int[] figures = new int[n];
            for (int i = n - 1; i >= 0; i--) {
                figures[i] = row % 10;
                row /= 10;
            }
            return figures;
        }

        /** The mess behind a row, or null if there is no such button. */
        private int[] behind(int[] mess, int[] figures) {
            int[] then = mess;
            for (int figure : figures) {
                if (none(figure - 1)) return null;
                then = pressed(then, figure - 1);
            }
            return then;
        }

        int after(int n, int row) {
            int[] figures = figures(n, row, 1, 6);
            if (figures == null) return -2;
            int[] then = behind(is, figures);
            return then == null ? -3 : mess(then);
        }

        int all() {
            int[] then = is;
            for (int i = 0; i < buttons.size(); i++) then = pressed(then, i);
            return mess(then);
        }

        /** Least rows from one mess to each that it reaches by the chosen buttons: breadth first, least button first. */
        private Map<Integer, String> rowsFrom(int[] mess, int chosen) {
            Map<Integer, String> rows = new HashMap<>();
            Deque<int[]> queue = new ArrayDeque<>();
            rows.put(mess(mess), "");
            queue.add(mess);
            while (!queue.isEmpty()) {
                int[] from = queue.remove();
                for (int i = 0; i < buttons.size(); i++) {
                    if ((chosen & 1 << i) == 0) continue;
                    int[] to = pressed(from, i);
                    if (rows.containsKey(mess(to))) continue;
                    rows.put(mess(to), rows.get(mess(from)) + (i + 1));
                    queue.add(to);
                }
            }
            return rows;
        }

        int fewest(int mess, boolean row) {
            if (messOf(mess) == null) return -2;
            String told = rowsFrom(is, 63).get(mess);
            if (told == null) return -9;
            if (!row) return told.length();
            return told.isEmpty() ? 0 : told.length() > 9 ? -9 : Integer.parseInt(told);
        }

        int worst(int mess, int what) {
            if (messOf(mess) == null || what < 0 || what > 1) return -2;
            int worst = 0;
            int can = 0;
            for (int[] from : messes()) {
                String told = rowsFrom(from, 63).get(mess);
                if (told == null) continue;
                can++;
                worst = Math.max(worst, told.length());
            }
            return what == 0 ? worst : can;
        }

        int sure(int mess, boolean row) {
            if (messOf(mess) == null) return -2;
            List<int[]> all = messes();
            for (int n = 0; n <= 3; n++) {
                for (int told = 0; told < Math.pow(10, n); told++) {
                    int[] figures = figures(n, told, 0, 3);
                    boolean sure = true;
                    for (int[] from : all) {
                        int[] then = behind(from, figures);
                        sure = sure && then != null && mess(then) == mess;
                        if (!sure) break;
                    }
                    if (sure) return row ? told : n;
                }
            }
            return -9;
        }

        int needed(int mess) {
            if (messOf(mess) == null) return -2;
            int best = -9;
            for (int chosen = (1 << buttons.size()) - 1; chosen >= 0; chosen--) {
                if (!rowsFrom(is, chosen).containsKey(mess)) continue;
                if (best == -9 || Integer.bitCount(chosen) <= Integer.bitCount(best)) best = chosen;
            }
            return best;
        }

        int judge(int n, int row) {
            int[] figures = figures(n, row, 1, 6);
            if (figures == null) return -2;
            int[] mess = is;
            for (int i = 0; i < n; i++) {
                if (none(figures[i] - 1)) return i;
                int[] then = pressed(mess, figures[i] - 1);
                if (mess(then) == mess(mess)) return i;
                mess = then;
            }
            return -9;
        }

        int see(int n, int row, int lights) {
            if (figures(n, row, 0, 3) == null || lights < 0 || lights > 15) return -2;
            if (seen.size() == 6) return -4;
            seen.add(new int[] {n, row, lights});
            return seen.size();
        }

        int unsee() {
            int were = seen.size();
            seen.clear();
            return were;
        }

        private List<int[]> mayBe() {
            List<int[]> may = new ArrayList<>();
            for (int[] mess : messes()) {
                boolean so = true;
                for (int[] one : seen) {
                    int[] then = behind(mess, figures(one[0], one[1], 0, 3));
                    boolean looked = then != null && one[2] < Math.pow(2, states.size());
                    if (looked && lights(then) != one[2]) so = false;
                }
                if (so) may.add(mess);
            }
            return may;
        }

        int may(int what) {
            if (what < 0 || what > 2) return -2;
            List<int[]> may = mayBe();
            if (what == 0) return may.size();
            if (may.isEmpty()) return -9;
            if (what == 1) return mess(may.get(0));
            int bits = 0;
            for (int i = 0; i < states.size(); i++) {
                TreeSet<Integer> in = new TreeSet<>();
                for (int[] mess : may) in.add(mess[i]);
                if (in.size() == 1) bits |= 1 << i;
            }
            return bits;
        }

        int tells(boolean many) {
            int best = -9;
            int least = Integer.MAX_VALUE;
            List<int[]> may = mayBe();
            for (int i = 0; i < buttons.size() && !may.isEmpty(); i++) {
                Map<Integer, Integer> alike = new HashMap<>();
                for (int[] mess : may) alike.merge(lights(pressed(mess, i)), 1, Integer::sum);
                int most = alike.values().stream().max(Integer::compare).get();
                if (most < least) {
                    least = most;
                    best = i;
                }
            }
            return best == -9 ? -9 : many ? least : best;
        }

        private static int fraction(BigInteger above, BigInteger below, boolean upper) {
            BigInteger common = above.gcd(below);
            return (upper ? above : below).divide(common).intValueExact();
        }

        /** From how many messes the mess is reached, for each set of buttons. */
        private int[] reachedBy(int mess) {
            int[] many = new int[1 << buttons.size()];
            for (int[] from : messes()) {
                for (int chosen = 0; chosen < many.length; chosen++) {
                    if (rowsFrom(from, chosen).containsKey(mess)) many[chosen]++;
                }
            }
            return many;
        }

        int share(int button, int mess, boolean upper) {
            if (none(button)) return -1;
            if (messOf(mess) == null) return -2;
            long[] sum = new long[2];
            addOrders(reachedBy(mess), button, 0, sum);
            return fraction(BigInteger.valueOf(sum[0]), BigInteger.valueOf(sum[1]), upper);
        }

        private void addOrders(int[] many, int button, int come, long[] sum) {
            for (int i = 0; i < buttons.size(); i++) {
                if ((come & 1 << i) != 0) continue;
                if (i == button) {
                    int left = buttons.size() - Integer.bitCount(come) - 1;
                    long orders = 1;
                    for (int k = 2; k <= left; k++) orders *= k;
                    sum[0] += orders * (many[come | 1 << i] - many[come]);
                    sum[1] += orders;
                } else {
                    addOrders(many, button, come | 1 << i, sum);
                }
            }
        }

        private int loses(int own, int one, int other, int thing, int wish) {
            int[] mess = one == 0 ? is : pressed(is, one - 1);
            if (other != 0) mess = pressed(mess, other - 1);
            return (own == 0 ? 0 : 1) + Math.max(mess[thing] - wish, wish - mess[thing]);
        }

        int rests(int t, int v, int u, int w, int what) {
            if (t < 0 || t >= states.size() || u < 0 || u >= states.size()) return -1;
            if (v < 0 || v >= states.get(t) || w < 0 || w >= states.get(u) || what < 0 || what > 1) return -2;
            List<Integer> pairs = new ArrayList<>();
            for (int one = 0; one <= buttons.size(); one++) {
                for (int other = 0; other <= buttons.size(); other++) {
                    boolean rest = true;
                    for (int choice = 0; choice <= buttons.size(); choice++) {
                        if (loses(choice, choice, other, t, v) < loses(one, one, other, t, v)) rest = false;
                        if (loses(choice, one, choice, u, w) < loses(other, one, other, u, w)) rest = false;
                    }
                    if (rest) pairs.add(10 * one + other);
                }
            }
            return what == 0 ? pairs.size() : pairs.isEmpty() ? -9 : pairs.get(0);
        }

        int weak(int button, int n, int mess, int x, boolean upper) {
            if (none(button)) return -1;
            if (messOf(mess) == null || n < 1 || n > 6 || x < 0 || x > 10) return -2;
            long above = 0;
            for (int missed = 0; missed < 1 << n; missed++) {
                int[] then = is;
                long chance = 1;
                for (int i = 0; i < n; i++) {
                    boolean miss = (missed & 1 << i) != 0;
                    chance *= miss ? x : 10 - x;
                    if (!miss) then = pressed(then, button);
                }
                if (mess(then) == mess) above += chance;
            }
            return fraction(BigInteger.valueOf(above), BigInteger.TEN.pow(n), upper);
        }

        long seed(long v) {
            long was = seed.longValue();
            seed = BigInteger.valueOf(v);
            return was;
        }

        int evenings(int k) {
            if (k < 1 || k > 30) return -2;
            int[] mess = is;
            int sum = 0;
            for (int i = 0; i < k; i++) {
                seed = seed.multiply(new BigInteger("6364136223846793005")).add(new BigInteger("1442695040888963407"))
                        .mod(BigInteger.TWO.pow(64));
                int button = seed.divide(BigInteger.TWO.pow(33)).mod(BigInteger.valueOf(7)).intValueExact();
                if (!none(button)) mess = pressed(mess, button);
                for (int state : mess) sum += state > 0 ? 1 : 0;
            }
            return sum;
        }

        int keep(int slot) {
            if (slot < 0 || slot > 1) return -1;
            kept.put(slot, new Object[] {is, believed, presses});
            return presses;
        }

        int again(int slot) {
            if (slot < 0 || slot > 1) return -1;
            if (!kept.containsKey(slot)) return -3;
            goTo(kept.get(slot));
            acts.clear();
            return presses;
        }

        int count(int what) {
            int[] counts = {text.length(), states.size(), buttons.size(), mess(is), mess(believed), lights(is),
                presses, acts.size(), seen.size()};
            return what < 0 || what >= counts.length ? -2 : counts[what];
        }
    }
}
