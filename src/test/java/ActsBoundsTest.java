/** Boundary sentences about what BUTTONS do, ACTS and PRESSES: promises 8 to 12, and part 1 of the terms. */
public final class ActsBoundsTest extends Checks {
    private ActsBoundsTest() { }

    public static void main(String[] args) {
        stepped();
        set();
        shared();
        sharedToldBehind();
        needs();
        messAndLights();
        pressUnknown();
        missUnknown();
        stepUnknown();
        pressedAndBelieved();
        missed();
        steppedByHand();
        foundOut();
        foundNone();
        changesNothingIsAnAct();
        fourteenActs();
        fifteenthOfEachKind();
        actsBehindAnUndoneOne();
        eachKindUndone();
        noneToUndo();
        pressesOfThoseForgotten();
        whatIsNoPress();
        end("bounds of the acts");
    }

    // ---- what buttons do

    private static void stepped() {
        sentence("STEP: t is in the next STATE (0 behind the last one)");
        for (int states = 2; states <= 4; states++) {
            FiveRemotes pressed = made("RT" + states + "0B000");
            FiveRemotes missed = made("RT" + states + "0B000");
            FiveRemotes byHand = made("RT" + states + "0B000");
            FiveRemotes needing = made("RT" + states + "0T21B031");
            for (int time = 1; time <= 2 * states; time++) {
                int due = time % states;
                same("press", pressed.press(0), due);
                same("miss", missed.miss(0), due);
                same("step", byHand.step(0), due);
                same("press of one that needs", needing.press(0), 10 * due + 1);
            }
        }
    }

    private static void set() {
        sentence("SET: t is in STATE a");
        for (int from = 0; from < 4; from++) {
            for (int to = 0; to < 4; to++) {
                same("from " + from + " to " + to, made("RT4" + from + "B01" + to).press(0), to);
            }
        }
    }

    private static void shared() {
        sentence("SHARED: t, and all THINGS behind it, are switched: off ones to 1, others off");
        int[] dues = {1100, 100, 0, 20};
        for (int thing = 0; thing < 4; thing++) {
            same("of thing " + thing, made("RT40T40T42T43B" + thing + "20").press(0), dues[thing]);
        }
        FiveRemotes x = made("RT42B020");
        same("of one alone", x.press(0), 0);
        same("of one alone", x.press(0), 1);
        same("of one alone", x.press(0), 0);
    }

    private static void sharedToldBehind() {
        sentence("all THINGS behind it: those that are told behind the BUTTON, too");
        same("press", made("RT20B020T20T31").press(0), 110);
        same("press", made("RT20T20B120T20T32").press(0), 110);
    }

    private static void needs() {
        sentence("NEEDS: as STEP, if THING a is not off; else nothing");
        for (int state = 0; state < 4; state++) {
            int due = state == 0 ? 0 : 10 + state;
            same("a in " + state, made("RT40T4" + state + "B031").press(0), due);
            same("t in its last STATE, a in " + state, made("RT43T4" + state + "B031").press(0), state == 0 ? 30 : state);
        }
        same("a ahead of t", made("RT41T40B130").press(0), 11);
        same("a ahead of t, off", made("RT40T41B130").press(0), 1);
    }

    private static void messAndLights() {
        sentence("MESS: STATES as figures (0: there are none). LIGHTS: THINGS that are not off (bits)");
        counts(made("R"), 1, 0, 0, 0, 0, 0);
        for (int mess = 0; mess < 256; mess++) {
            int[] states = {mess / 64, mess / 16 % 4, mess / 4 % 4, mess % 4};
            int lights = 0;
            int figures = 0;
            StringBuilder text = new StringBuilder("R");
            for (int thing = 0; thing < 4; thing++) {
                text.append("T4").append(states[thing]);
                figures = 10 * figures + states[thing];
                if (states[thing] > 0) lights += 1 << thing;
            }
            counts(made(text.toString()), 13, 4, 0, figures, figures, lights);
        }
    }

    // ---- acts

    private static void pressUnknown() {
        sentence("press: UNKNOWN");
        String text = "RT20T40";
        for (int buttons = 0; buttons <= 6; buttons++) {
            FiveRemotes x = made(text);
            bounds("press of " + buttons, 0, buttons - 1, UNKNOWN, x::press);
            text = text + "B100";
        }
    }

    private static void missUnknown() {
        sentence("miss: UNKNOWN");
        String text = "RT20T40";
        for (int buttons = 0; buttons <= 6; buttons++) {
            FiveRemotes x = made(text);
            bounds("miss of " + buttons, 0, buttons - 1, UNKNOWN, x::miss);
            text = text + "B100";
        }
    }

    private static void stepUnknown() {
        sentence("step: UNKNOWN");
        String text = "R";
        for (int things = 0; things <= 4; things++) {
            FiveRemotes x = made(text);
            bounds("step of " + things, 0, things - 1, UNKNOWN, x::step);
            text = text + "T30";
        }
    }

    private static void pressedAndBelieved() {
        sentence("PRESSED: the one for all BELIEVES that it did it to what it BELIEVED");
        FiveRemotes x = made("RT20T20B130");
        same("step", x.step(0), 1);
        same("press", x.press(0), 11);
        same("what it needs is BELIEVED off", x.count(4), 0);
        FiveRemotes y = made("RT20T20B011B130");
        same("miss", y.miss(0), 10);
        same("what it needs is off", y.press(1), 0);
        same("what it needs is BELIEVED on", y.count(4), 11);
        FiveRemotes z = made("RT20T20B020");
        same("step", z.step(0), 1);
        same("press", z.press(0), 1);
        same("BELIEVED", z.count(4), 11);
    }

    private static void missed() {
        sentence("MISSED: it only BELIEVES that");
        FiveRemotes x = made("RT21T20B000");
        same("behind the last STATE", x.miss(0), 0);
        counts(x, 11, 2, 1, 10, 0, 1, 1, 1);
        same("miss", x.miss(0), 10);
        counts(x, 11, 2, 1, 10, 10, 1, 2, 2);
    }

    private static void steppedByHand() {
        sentence("STEPPED: a THING is in the next STATE, by hand; it BELIEVES nothing new");
        FiveRemotes x = made("RT40T42");
        same("step", x.step(1), 3);
        counts(x, 7, 2, 0, 3, 2, 2, 0, 1);
        same("behind the last STATE", x.step(1), 0);
        counts(x, 7, 2, 0, 0, 2, 0, 0, 2);
    }

    private static void foundOut() {
        sentence("FOUND OUT: how many THINGS were BELIEVED otherwise");
        for (int things = 1; things <= 4; things++) {
            FiveRemotes x = made("RT20T31T42T43");
            for (int thing = 0; thing < things; thing++) x.step(thing);
            same("find", x.find(), things);
            same("BELIEVED", x.count(4), x.count(3));
            same("find again", x.find(), STATE);
        }
        FiveRemotes far = made("RT40T40");
        same("step", far.step(0), 1);
        same("step", far.step(0), 2);
        same("one THING by two STATES", far.find(), 1);
        same("BELIEVED", far.count(4), 20);
    }

    private static void foundNone() {
        sentence("find: STATE: none");
        same("nothing there", new FiveRemotes().find(), STATE);
        FiveRemotes x = made("RT20T20B000");
        same("at first", x.find(), STATE);
        same("press", x.press(0), 10);
        same("pressed", x.find(), STATE);
        same("step", x.step(1), 1);
        same("step", x.step(1), 0);
        same("stepped till it was as BELIEVED", x.find(), STATE);
        counts(x, 11, 2, 1, 10, 10, 1, 1, 3);
    }

    private static void changesNothingIsAnAct() {
        sentence("a BUTTON that is PRESSED and changes nothing is an ACT, and counted");
        FiveRemotes x = made("RT20T20B031B010");
        same("press", x.press(0), 0);
        same("press", x.press(1), 0);
        same("miss", x.miss(1), 0);
        counts(x, 15, 2, 2, 0, 0, 0, 3, 3);
        same("undo", x.undo(), 2);
    }

    private static void fourteenActs() {
        sentence("ACTS are a row (14 at most; of more the first one is forgotten)");
        for (int acts = 0; acts <= 31; acts++) {
            FiveRemotes x = made("RT40B000");
            for (int act = 1; act <= acts; act++) {
                same("press", x.press(0), act % 4);
                same("count(7)", x.count(7), Math.min(act, 14));
            }
            int forgotten = Math.max(acts - 14, 0);
            for (int left = acts - 1; left >= forgotten; left--) {
                same("undo", x.undo(), left - forgotten);
                same("the MESS", x.count(3), left % 4);
                same("BELIEVED", x.count(4), left % 4);
            }
            same("none is left of " + acts, x.undo(), STATE);
            same("the MESS", x.count(3), forgotten % 4);
        }
    }

    private static void fifteenthOfEachKind() {
        sentence("ACTS (PRESSED, MISSED, STEPPED, FOUND OUT) are a row: of more the first one is forgotten");
        for (int kind = 0; kind < 4; kind++) {
            FiveRemotes x = made("RT40B000");
            same("the first one", x.miss(0), 1);
            for (int act = 2; act <= 14; act++) x.press(0);
            counts(x, 8, 1, 1, 1, 2, 1, 14, 14);
            same("the fifteenth, of kind " + kind, act(x, kind), new int[] {2, 3, 2, 1}[kind]);
            same("count(7)", x.count(7), 14);
            same("undo", x.undo(), 13);
            counts(x, 8, 1, 1, 1, 2, 1, 14, 13);
            for (int left = 12; left >= 0; left--) same("undo", x.undo(), left);
            counts(x, 8, 1, 1, 0, 1, 0, 1, 0);
            same("the first one is forgotten", x.undo(), STATE);
        }
    }

    private static long act(FiveRemotes x, int kind) {
        switch (kind) {
            case 0: return x.press(0);
            case 1: return x.miss(0);
            case 2: return x.step(0);
            default: return x.find();
        }
    }

    private static void actsBehindAnUndoneOne() {
        sentence("an ACT comes behind those that are left, when one was undone");
        FiveRemotes x = made("RT40T40B000B100");
        for (int act = 1; act <= 14; act++) x.press(0);
        same("undo", x.undo(), 13);
        same("press", x.press(1), 11);
        same("count(7)", x.count(7), 14);
        same("press", x.press(1), 12);
        same("count(7)", x.count(7), 14);
        same("undo", x.undo(), 13);
        same("the MESS", x.count(3), 11);
        same("undo", x.undo(), 12);
        same("the MESS", x.count(3), 10);
        for (int left = 11; left >= 0; left--) same("undo", x.undo(), left);
        same("none", x.undo(), STATE);
        same("the MESS behind the one forgotten", x.count(3), 10);
    }

    private static void eachKindUndone() {
        sentence("the last one can be undone");
        FiveRemotes x = made("RT40T40B000");
        same("step", x.step(1), 1);
        same("find", x.find(), 1);
        same("miss", x.miss(0), 11);
        same("press", x.press(0), 11);
        counts(x, 11, 2, 1, 11, 21, 3, 2, 4);
        same("PRESSED", x.undo(), 3);
        counts(x, 11, 2, 1, 1, 11, 2, 1, 3);
        same("MISSED", x.undo(), 2);
        counts(x, 11, 2, 1, 1, 1, 2, 0, 2);
        same("FOUND OUT", x.undo(), 1);
        counts(x, 11, 2, 1, 1, 0, 2, 0, 1);
        same("STEPPED", x.undo(), 0);
        counts(x, 11, 2, 1, 0, 0, 0, 0, 0);
    }

    private static void noneToUndo() {
        sentence("undo: STATE: there is none");
        same("nothing there", new FiveRemotes().undo(), STATE);
        FiveRemotes x = made("RT20B000");
        same("at first", x.undo(), STATE);
        same("press", x.press(0), 1);
        same("undo", x.undo(), 0);
        same("undone", x.undo(), STATE);
        same("press", x.press(0), 1);
        same("keep", x.keep(0), 1);
        same("again", x.again(0), 1);
        same("gone on from what was kept", x.undo(), STATE);
        counts(x, 8, 1, 1, 1, 1, 1, 1, 0);
    }

    private static void pressesOfThoseForgotten() {
        sentence("PRESSES: how often PRESSED, MISSED were (those that are forgotten, too)");
        FiveRemotes x = made("RT20B000");
        for (int time = 1; time <= 40; time++) {
            same("press", x.press(0), time % 2);
            same("miss", x.miss(0), (time + 1) % 2);
            same("miss", x.miss(0), time % 2);
            same("count(6)", x.count(6), 3 * time);
        }
    }

    private static void whatIsNoPress() {
        sentence("PRESSES: STEPPED and FOUND OUT are none");
        FiveRemotes x = made("RT20B000");
        same("miss", x.miss(0), 1);
        same("find", x.find(), 1);
        same("step", x.step(0), 1);
        counts(x, 8, 1, 1, 1, 0, 1, 1, 3);
    }
}
