/** Boundary sentences about SLOTS, counts and how long an object is used: promises 29 to 31, "What it is", the constants. */
public final class SlotsBoundsTest extends Checks {
    private SlotsBoundsTest() { }

    public static void main(String[] args) {
        constants();
        keepUnknown();
        againUnknown();
        againState();
        unknownAheadOfState();
        whatIsKept();
        whatIsNotKept();
        eachSlotForItself();
        actsWhenOneGoesOn();
        keptWithoutRoom();
        mostPressesKept();
        countOutside();
        counted();
        lightsCounted();
        fiveHundredAndTwelveCalls();
        end("bounds of the slots and counts");
    }

    private static void constants() {
        sentence("UNKNOWN = -1, OUTSIDE = -2, STATE = -3, FULL = -4, NONE = -9");
        same("UNKNOWN", FiveRemotes.UNKNOWN, -1);
        same("OUTSIDE", FiveRemotes.OUTSIDE, -2);
        same("STATE", FiveRemotes.STATE, -3);
        same("FULL", FiveRemotes.FULL, -4);
        same("NONE", FiveRemotes.NONE, -9);
    }

    private static void keepUnknown() {
        sentence("SLOTS 0 to 1. keep: UNKNOWN");
        FiveRemotes x = made("RT20B000");
        bounds("keep", 0, 1, UNKNOWN, x::keep);
    }

    private static void againUnknown() {
        sentence("SLOTS 0 to 1. again: UNKNOWN");
        FiveRemotes x = made("RT20B000");
        x.keep(0);
        x.keep(1);
        bounds("again", 0, 1, UNKNOWN, x::again);
    }

    private static void againState() {
        sentence("again: STATE: none were kept");
        FiveRemotes x = made("RT20B000");
        same("again(0)", x.again(0), STATE);
        same("again(1)", x.again(1), STATE);
        same("keep(1)", x.keep(1), 0);
        same("the other one", x.again(0), STATE);
        same("this one", x.again(1), 0);
        same("this one again", x.again(1), 0);
        FiveRemotes y = made("RT20B000");
        same("keep(0)", y.keep(0), 0);
        same("the other one", y.again(1), STATE);
        same("this one", y.again(0), 0);
        makeAnew(y, "RT20B000");
        same("of the ROOM that was", y.again(0), STATE);
    }

    private static void unknownAheadOfState() {
        sentence("again: UNKNOWN; STATE");
        FiveRemotes x = new FiveRemotes();
        same("again(2)", x.again(2), UNKNOWN);
        same("again(-1)", x.again(-1), UNKNOWN);
        same("again(1)", x.again(1), STATE);
    }

    private static void whatIsKept() {
        sentence("SLOTS keep STATES, what is BELIEVED, PRESSES");
        FiveRemotes x = made("RT40T31B000B112");
        same("press", x.press(0), 11);
        same("miss", x.miss(1), 12);
        same("step", x.step(1), 2);
        same("step", x.step(0), 2);
        counts(x, 15, 2, 2, 22, 12, 3, 2, 4, 0);
        same("keep", x.keep(0), 2);
        counts(x, 15, 2, 2, 22, 12, 3, 2, 4, 0);
        for (int time = 0; time < 2; time++) {
            same("press", x.press(0), 32);
            same("step", x.step(0), 0);
            same("find", x.find(), 1);
            counts(x, 15, 2, 2, 2, 2, 2, 3, time == 0 ? 7 : 3, 0);
            same("again", x.again(0), 2);
            counts(x, 15, 2, 2, 22, 12, 3, 2, 0, 0);
        }
    }

    private static void whatIsNotKept() {
        sentence("SLOTS keep nothing else: THE TEXT, SEEN and THE SEED go on");
        FiveRemotes x = made("RT20B000");
        same("keep", x.keep(0), 0);
        same("see", x.see(0, 0, 1), 1);
        same("seed", x.seed(7), 0);
        same("write", x.write('T'), 9);
        same("again", x.again(0), 0);
        counts(x, 9, 1, 1, 0, 0, 0, 0, 0, 1);
        same("seed", x.seed(0), 7);
        same("may(0)", x.may(0), 1);
    }

    private static void eachSlotForItself() {
        sentence("They are as they were kept: each SLOT for itself, the last time that it was kept");
        FiveRemotes x = made("RT40B000");
        same("keep(0)", x.keep(0), 0);
        same("press", x.press(0), 1);
        same("keep(1)", x.keep(1), 1);
        same("press", x.press(0), 2);
        same("again(0)", x.again(0), 0);
        same("the MESS", x.count(3), 0);
        same("again(1)", x.again(1), 1);
        same("the MESS", x.count(3), 1);
        same("press", x.press(0), 2);
        same("kept anew", x.keep(0), 2);
        same("again(1)", x.again(1), 1);
        same("again(0)", x.again(0), 2);
        same("the MESS", x.count(3), 2);
    }

    private static void actsWhenOneGoesOn() {
        sentence("(THE ROW of ACTS is empty when one goes on)");
        FiveRemotes x = made("RT40B000");
        for (int act = 1; act <= 15; act++) x.press(0);
        same("keep", x.keep(1), 15);
        same("the row stays when they are kept", x.count(7), 14);
        same("undo", x.undo(), 13);
        same("again", x.again(1), 15);
        same("count(7)", x.count(7), 0);
        same("undo", x.undo(), STATE);
        same("press", x.press(0), 0);
        same("undo", x.undo(), 0);
        same("the MESS", x.count(3), 3);
        same("nothing left", x.undo(), STATE);
        same("refused, the row stays", x.press(0), 0);
        same("refused, the row stays", x.again(0), STATE);
        same("count(7)", x.count(7), 1);
    }

    private static void keptWithoutRoom() {
        sentence("keep, where nothing is told");
        FiveRemotes x = new FiveRemotes();
        same("again(0)", x.again(0), STATE);
        same("keep(0)", x.keep(0), 0);
        same("again(0)", x.again(0), 0);
        same("again(1)", x.again(1), STATE);
        counts(x, 0, 0, 0, 0, 0, 0, 0, 0, 0);
    }

    private static void mostPressesKept() {
        sentence("keep: They are kept: PRESSES: all that were counted");
        FiveRemotes x = made("RT20B000");
        for (int press = 1; press <= 200; press++) {
            same("press", x.press(0), press % 2);
            same("keep", x.keep(press % 2), press);
        }
        same("again(0)", x.again(0), 200);
        same("again(1)", x.again(1), 199);
        same("count(6)", x.count(6), 199);
    }

    private static void countOutside() {
        sentence("count: OUTSIDE");
        FiveRemotes x = made(GREATEST);
        bounds("count", 0, 8, OUTSIDE, x::count);
        bounds("count of nothing", 0, 8, OUTSIDE, what -> new FiveRemotes().count(what));
    }

    private static void counted() {
        sentence("count: 0 letters, 1 THINGS, 2 BUTTONS, 3 the MESS, 4 the MESS BELIEVED, 5 LIGHTS, 6 PRESSES, 7 ACTS, 8 SEEN");
        counts(new FiveRemotes(), 0, 0, 0, 0, 0, 0, 0, 0, 0);
        FiveRemotes x = made("RT43T43T43T43B013B113B213B313B013B113");
        counts(x, 37, 4, 6, 3333, 3333, 15, 0, 0, 0);
        for (int i = 0; i < 15; i++) x.press(5);
        for (int i = 0; i < 6; i++) x.see(0, 0, 0);
        for (int i = 0; i < 7; i++) x.write(0);
        counts(x, 44, 4, 6, 3333, 3333, 15, 15, 14, 6);
        same("step", x.step(0), 0);
        same("miss", x.miss(0), 3333);
        counts(x, 44, 4, 6, 333, 3333, 14, 16, 14, 6);
    }

    private static void lightsCounted() {
        sentence("LIGHTS: THINGS that are not off (bits): of what is, not of what is BELIEVED");
        FiveRemotes x = made("RT20T20T20T20B011B111B211B311");
        for (int button = 0; button < 4; button++) x.miss(button);
        counts(x, 29, 4, 4, 0, 1111, 0);
        for (int thing = 3; thing >= 0; thing--) {
            same("step", x.step(thing), 1);
            same("count(5)", x.count(5), 15 - (1 << thing) + 1);
        }
    }

    private static void fiveHundredAndTwelveCalls() {
        sentence("An object is used for at most 512 calls after it has been made");
        FiveRemotes x = new FiveRemotes();
        String text = "RT40T40T40T40B000B100B200B300";
        for (int i = 0; i < text.length(); i++) same("write", x.write(text.charAt(i)), i + 1);
        same("room", x.room(), 44);
        int calls = text.length() + 1;
        for (int press = 0; calls < 511; calls++, press++) same("press", x.press(press % 4), pressedInTurn(press));
        same("the 512th", x.count(6), 511 - text.length() - 1);
    }

    /** The four THINGS are stepped in turn, the first one first. */
    private static int pressedInTurn(int press) {
        int mess = 0;
        for (int thing = 0; thing < 4; thing++) mess = 10 * mess + (press + 4 - thing) / 4 % 4;
        return mess;
    }
}
