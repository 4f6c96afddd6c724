/** Boundary sentences about ROWS of PRESSES and what they reach: promises 13 to 19, and part 2 of the terms. */
public final class PressesBoundsTest extends Checks {
    private static final int[] TENS = {1, 10, 100, 1000, 10000, 100000, 1000000};
    private static final String SIX = "RT40T40B000B000B000B000B000B100";

    private PressesBoundsTest() { }

    public static void main(String[] args) {
        presses();
        figuresOfAfter();
        noSuchButton();
        outsideAheadOfState();
        fromWhatIs();
        all();
        messesOfAll();
        fewestNone();
        fewestNotReached();
        nineFigures();
        tenFigures();
        leastAsNumber();
        worstWhat();
        worst();
        can();
        sureNoPresses();
        sureThreePresses();
        sureFirstRow();
        sureNone();
        neededNone();
        neededNotReached();
        neededAll();
        neededFewestThenLeast();
        judgedPresses();
        judgedFigures();
        judgedPlaces();
        judgedNoSuchButton();
        judgedChangesNothing();
        judgedNone();
        end("bounds of the presses");
    }

    private static int ones(int n) {
        return n < 1 || n > 6 ? 0 : 111111 / TENS[6 - n];
    }

    // ---- rows

    private static void presses() {
        sentence("A ROW of n PRESSES (1 to 6). after: OUTSIDE: n");
        FiveRemotes x = made(SIX);
        bounds("after, n", 1, 6, OUTSIDE, n -> x.after(n, ones(n)));
        same("none", x.after(0, 1), OUTSIDE);
        same("seven", x.after(7, 1111111), OUTSIDE);
        for (int n = 1; n <= 6; n++) same("ones, " + n, x.after(n, ones(n)), n % 4 * 10);
    }

    private static void figuresOfAfter() {
        sentence("after: OUTSIDE: row (0 or more, n figures at most)");
        FiveRemotes x = made(SIX);
        for (int n = 1; n <= 6; n++) {
            same("nothing", x.after(n, 0), STATE);
            same("less than nothing", x.after(n, -1), OUTSIDE);
            same("the least", x.after(n, Integer.MIN_VALUE), OUTSIDE);
            same("the greatest with a BUTTON each", x.after(n, 6 * ones(n)), n % 4);
            same("the greatest of n figures", x.after(n, TENS[n] - 1), STATE);
            same("a figure more", x.after(n, TENS[n]), OUTSIDE);
            same("ones, a figure more", x.after(n, ones(n) + TENS[n]), OUTSIDE);
            same("the greatest", x.after(n, Integer.MAX_VALUE), OUTSIDE);
        }
    }

    private static void noSuchButton() {
        sentence("after: STATE: there is no such BUTTON");
        String text = "RT20";
        for (int buttons = 0; buttons <= 6; buttons++) {
            for (int place = 0; place < 6; place++) {
                FiveRemotes x = made(text);
                for (int figure = 0; figure <= 9; figure++) {
                    int row = 111111 + (figure - 1) * TENS[5 - place];
                    boolean there = figure >= 1 && figure <= buttons;
                    if (there) taken("after " + row + " of " + buttons, x.after(6, row));
                    else same("after " + row + " of " + buttons, x.after(6, row), STATE);
                }
            }
            text = text + "B000";
        }
        FiveRemotes x = made("RT20B000");
        same("fewer figures than PRESSES", x.after(2, 1), STATE);
        same("as many", x.after(2, 11), 0);
    }

    private static void outsideAheadOfState() {
        sentence("after: OUTSIDE; STATE");
        FiveRemotes x = made("RT20B000");
        same("n and the BUTTON", x.after(0, 2), OUTSIDE);
        same("n and the BUTTON", x.after(7, 2222222), OUTSIDE);
        same("row and the BUTTON", x.after(1, 22), OUTSIDE);
        same("row and the BUTTON", x.after(6, 2222222), OUTSIDE);
        same("the BUTTON", x.after(6, 222222), STATE);
    }

    private static void fromWhatIs() {
        sentence("the MESS then, from what is");
        FiveRemotes x = made("RT40T20B000B100");
        same("miss", x.miss(0), 10);
        same("step", x.step(0), 1);
        same("step", x.step(0), 2);
        same("after", x.after(1, 1), 30);
        same("after", x.after(2, 11), 0);
        same("all", x.all(), 31);
        same("fewest", x.fewest(20, false), 0);
        same("needed", x.needed(20), 0);
        FiveRemotes set = made("RT20B011");
        same("miss", set.miss(0), 1);
        same("judge", set.judge(1, 1), NONE);
        same("press", set.press(0), 1);
        same("judge", set.judge(1, 1), 0);
    }

    private static void all() {
        sentence("ALL: the MESS behind each BUTTON PRESSED once, by number");
        same("nothing there", new FiveRemotes().all(), 0);
        same("no BUTTONS", made("RT21T43").all(), 13);
        same("one", made("RT43B000").all(), 0);
        same("the last one sets", made("RT40B011B012B013").all(), 3);
        same("the last one sets", made("RT40B013B012B011").all(), 1);
        same("six", made("RT40T40B000B000B000B000B000B100").all(), 11);
        same("what needs, ahead", made("RT20T20B130B000").all(), 10);
        same("what needs, behind", made("RT20T20B000B130").all(), 11);
    }

    // ---- what is reached

    private static void messesOfAll() {
        sentence("OUTSIDE: mess (figures of STATES that there are)");
        String[] texts = {"R", "RT20B000", "RT40B000", "RT20T31T42B000B100", "RT40T40T40T40B000"};
        int[][] states = {{}, {2}, {4}, {2, 3, 4}, {4, 4, 4, 4}};
        for (int i = 0; i < texts.length; i++) {
            messes("fewest", texts[i], states[i], (x, mess) -> x.fewest(mess, false));
            messes("fewest, the ROW", texts[i], states[i], (x, mess) -> x.fewest(mess, true));
            messes("worst", texts[i], states[i], (x, mess) -> x.worst(mess, 0));
            messes("can", texts[i], states[i], (x, mess) -> x.worst(mess, 1));
            messes("sure", texts[i], states[i], (x, mess) -> x.sure(mess, false));
            messes("sure, the ROW", texts[i], states[i], (x, mess) -> x.sure(mess, true));
            messes("needed", texts[i], states[i], (x, mess) -> x.needed(mess));
        }
    }

    private static void fewestNone() {
        sentence("FEWEST: 0: none is needed");
        FiveRemotes x = made("RT42B000");
        same("how many", x.fewest(2, false), 0);
        same("the ROW", x.fewest(2, true), 0);
        same("without BUTTONS", made("RT42").fewest(2, false), 0);
        same("without BUTTONS", made("RT42").fewest(2, true), 0);
        same("without THINGS", made("R").fewest(0, true), 0);
    }

    private static void fewestNotReached() {
        sentence("FEWEST: NONE");
        FiveRemotes x = made("RT20T20B011B110");
        same("reached", x.fewest(10, false), 1);
        same("how many", x.fewest(1, false), NONE);
        same("the ROW", x.fewest(1, true), NONE);
        same("without BUTTONS", made("RT42").fewest(1, false), NONE);
        same("without BUTTONS", made("RT42").fewest(1, true), NONE);
    }

    private static void nineFigures() {
        sentence("FEWEST: the first such ROW, if it has 9 figures at most");
        FiveRemotes x = made("RT40T40T40B010B010B010B000B100B200");
        same("one", x.fewest(1, true), 6);
        same("eight", x.fewest(332, false), 8);
        same("eight", x.fewest(332, true), 44455566);
        same("nine", x.fewest(333, false), 9);
        same("nine, the greatest figures", x.fewest(333, true), 444555666);
    }

    private static void tenFigures() {
        sentence("FEWEST: if it has 9 figures at most; else NONE");
        FiveRemotes x = made("RT40T40T40T40B000B100B200B300");
        same("nine", x.fewest(3330, true), 111222333);
        same("ten", x.fewest(3331, false), 10);
        same("ten", x.fewest(3331, true), NONE);
        same("twelve", x.fewest(3333, false), 12);
        same("twelve", x.fewest(3333, true), NONE);
    }

    private static void leastAsNumber() {
        sentence("FEWEST: the first such ROW (the least as a number)");
        same("of like ones", made("RT20B000B000").fewest(1, true), 1);
        same("of orders", made("RT20T20B100B000").fewest(11, true), 12);
        same("of orders", made("RT20T20T20B000B100B200").fewest(111, true), 123);
        same("fewer ahead of less", made("RT40B000B012").fewest(2, true), 2);
        same("where one goes on ahead of another", made("RT20T20B130B000").fewest(11, true), 21);
        same("behind the last STATE", made("RT43B000").fewest(1, true), 11);
        same("a lesser BUTTON from behind which m can't be reached", made("RT21T20B010B100").fewest(11, true), 2);
        same("a lesser BUTTON from behind which m is as far", made("RT20T30B000B100B110").fewest(2, true), 22);
        FiveRemotes six = made("RT20T20T20T20B011B010B111B110B230B331");
        same("six of six BUTTONS", six.fewest(11, false), 6);
        same("six of six BUTTONS", six.fewest(11, true), 135264);
    }

    private static void worstWhat() {
        sentence("WORST (what = 0), CAN (1). OUTSIDE: what");
        FiveRemotes x = made("RT20B000");
        bounds("worst, what", 0, 1, OUTSIDE, what -> x.worst(0, what));
        same("mess and what", x.worst(2, 2), OUTSIDE);
        same("mess alone", x.worst(2, 1), OUTSIDE);
    }

    private static void worst() {
        sentence("WORST for m: the greatest of FEWEST for m from all MESSES from which m can be reached");
        same("from itself alone", made("RT20T20").worst(10, 0), 0);
        same("from nothing", made("R").worst(0, 0), 0);
        same("what is can't", made("RT40T20B000").worst(11, 0), 3);
        same("one", made("RT40B012").worst(2, 0), 1);
        same("never set", made("RT40B012").worst(1, 0), 0);
        same("the most MESSES", made("RT40T40T40T40B000B100B200B300").worst(0, 0), 12);
    }

    private static void can() {
        sentence("CAN: from how many MESSES m can be reached (from itself, too)");
        same("from itself alone", made("RT20T20").worst(10, 1), 1);
        same("from nothing", made("R").worst(0, 1), 1);
        same("what is can't", made("RT40T20B000").worst(11, 1), 4);
        same("all by one", made("RT40B012").worst(2, 1), 4);
        same("never set", made("RT40B012").worst(1, 1), 1);
        same("the most MESSES", made("RT40T40T40T40B000B100B200B300").worst(0, 1), 256);
    }

    // ---- what is sure

    private static void sureNoPresses() {
        sentence("SURE: the first ROW of 0 to 3 PRESSES: 0, where there is one MESS");
        same("how many", made("R").sure(0, false), 0);
        same("the ROW", made("R").sure(0, true), 0);
        same("nothing there", new FiveRemotes().sure(0, true), 0);
        same("with THINGS none is not enough", made("RT20").sure(0, false), NONE);
        same("with THINGS one is needed", made("RT20B010").sure(0, false), 1);
    }

    private static void sureThreePresses() {
        sentence("SURE: the first ROW of 0 to 3 PRESSES: 3, and not 4");
        FiveRemotes x = made("RT40B000B011");
        for (int presses = 1; presses <= 3; presses++) {
            same("how many", x.sure(presses, false), presses);
            same("the ROW", x.sure(presses, true), new int[] {2, 21, 211}[presses - 1]);
        }
        same("four", x.sure(0, false), NONE);
        same("four", x.sure(0, true), NONE);
        same("the greatest figures", made("RT40B020B020B020B020B000B011").sure(3, true), 655);
        same("three that set", made("RT20T20T20B010B010B010B011B111B211").sure(111, true), 456);
    }

    private static void sureFirstRow() {
        sentence("SURE: fewer first, then the least as a number");
        same("of like ones", made("RT40B012B012").sure(2, true), 1);
        same("fewer ahead of less", made("RT40B000B011B012").sure(2, true), 3);
        same("of orders", made("RT20T20B110B011").sure(10, true), 12);
        FiveRemotes x = made("RT20T20B000B011B100B111");
        same("before", x.sure(11, true), 24);
        same("press", x.press(1), 10);
        same("from every MESS, not from what is", x.sure(11, true), 24);
    }

    private static void sureNone() {
        sentence("SURE: NONE");
        same("no BUTTONS", made("RT20").sure(0, true), NONE);
        same("steps alone", made("RT20B000").sure(0, false), NONE);
        same("one THING alone is set", made("RT20T20B010").sure(0, false), NONE);
    }

    // ---- what is needed

    private static void neededNone() {
        sentence("NEEDED: none, if what is is m");
        same("with BUTTONS", made("RT42B000B010").needed(2), 0);
        same("without", made("RT42").needed(2), 0);
        same("without THINGS", made("R").needed(0), 0);
    }

    private static void neededNotReached() {
        sentence("NEEDED: NONE");
        same("without BUTTONS", made("RT42").needed(0), NONE);
        same("with one", made("RT42B011").needed(0), NONE);
        same("with six", made("RT20T20B000B000B000B000B000B000").needed(1), NONE);
    }

    private static void neededAll() {
        sentence("NEEDED: the fewest BUTTONS (bits), the first to the last, one to all");
        same("the first", made("RT20B000").needed(1), 1);
        same("the last", made("RT20B010B010B010B010B010B000").needed(1), 32);
        FiveRemotes x = made("RT20T20T20T20B011B010B111B110B230B331");
        same("five", x.needed(1011), 63 - 2);
        same("all", x.needed(11), 63);
    }

    private static void neededFewestThenLeast() {
        sentence("NEEDED: the fewest BUTTONS (of like ones the least)");
        same("of like ones", made("RT20B010B000B000").needed(1), 2);
        same("one ahead of two that are less", made("RT20T20B000B100B020").needed(11), 4);
        same("of pairs", made("RT20T20B000B100B000B100").needed(11), 3);
        same("of pairs the least", made("RT20T20B010B100B000B000").needed(11), 6);
        same("fewest BUTTONS, not PRESSES", made("RT40B011B000B012B013").needed(3), 2);
    }

    // ---- what is judged

    private static void judgedPresses() {
        sentence("judge: OUTSIDE: n");
        FiveRemotes x = made("RT40B000");
        bounds("judge, n", 1, 6, OUTSIDE, n -> x.judge(n, ones(n)));
        same("none", x.judge(0, 1), OUTSIDE);
        same("seven", x.judge(7, 1111111), OUTSIDE);
    }

    private static void judgedFigures() {
        sentence("judge: OUTSIDE: row");
        FiveRemotes x = made(SIX);
        for (int n = 1; n <= 6; n++) {
            same("nothing", x.judge(n, 0), 0);
            same("less than nothing", x.judge(n, -1), OUTSIDE);
            same("the least", x.judge(n, Integer.MIN_VALUE), OUTSIDE);
            same("the greatest with a BUTTON each", x.judge(n, 6 * ones(n)), NONE);
            same("the greatest of n figures", x.judge(n, TENS[n] - 1), 0);
            same("a figure more", x.judge(n, TENS[n]), OUTSIDE);
            same("ones, a figure more", x.judge(n, ones(n) + TENS[n]), OUTSIDE);
            same("the greatest", x.judge(n, Integer.MAX_VALUE), OUTSIDE);
        }
    }

    private static void judgedPlaces() {
        sentence("JUDGED: the place of the first BUTTON");
        FiveRemotes x = made("RT40T20B000B110");
        for (int n = 1; n <= 6; n++) {
            for (int place = 0; place < n; place++) {
                int row = ones(n) + TENS[n - 1 - place];
                same("judge(" + n + ", " + row + ")", x.judge(n, row), place);
                same("and another at the end", x.judge(n, row / 10 * 10 + 2), place);
            }
        }
    }

    private static void judgedNoSuchButton() {
        sentence("JUDGED: that there is not");
        String text = "RT20";
        for (int buttons = 0; buttons <= 6; buttons++) {
            FiveRemotes x = made(text);
            for (int figure = 0; figure <= 9; figure++) {
                boolean there = figure >= 1 && figure <= buttons;
                same("figure " + figure + " of " + buttons, x.judge(1, figure), there ? NONE : 0);
                if (buttons > 0) same("figure " + figure + " behind", x.judge(2, 10 + figure), there ? NONE : 1);
            }
            text = text + "B000";
        }
    }

    private static void judgedChangesNothing() {
        sentence("JUDGED: that changes nothing");
        same("set what is", made("RT21B011").judge(1, 1), 0);
        same("set what is not", made("RT20B011").judge(1, 1), NONE);
        same("set twice", made("RT20B011").judge(2, 11), 1);
        same("set, stepped, set", made("RT20B011B000").judge(3, 121), NONE);
        same("needs what is off", made("RT20T20B031").judge(1, 1), 0);
        same("needs what is on by then", made("RT20T20B031B100").judge(2, 21), NONE);
        same("needs what is off by then", made("RT20T21B031B100").judge(3, 121), 2);
        same("goes on ahead", made("RT20B000").judge(6, 111111), NONE);
    }

    private static void judgedNone() {
        sentence("JUDGED: NONE: none");
        FiveRemotes x = made("RT40T20B000B100");
        for (int n = 1; n <= 6; n++) {
            same("ones", x.judge(n, ones(n)), NONE);
            same("twos", x.judge(n, 2 * ones(n)), NONE);
        }
    }
}
