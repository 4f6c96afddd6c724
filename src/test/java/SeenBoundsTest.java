/** Boundary sentences about what is SEEN, MAY be and TELLS: promises 20 to 23, and part 3 of the terms. */
public final class SeenBoundsTest extends Checks {
    private static final int[] TENS = {1, 10, 100, 1000};

    private SeenBoundsTest() { }

    public static void main(String[] args) {
        noneAtFirst();
        presses();
        figures();
        lights();
        sixSeen();
        outsideAheadOfFull();
        unsee();
        behindNoPress();
        behindRows();
        noSuchButton();
        noSuchThing();
        lookedAtInAnotherRoom();
        allSixAreLookedAt();
        mayWhat();
        howManyMayBe();
        leastThatMayBe();
        thingsInOneState();
        thingsInOneStateOfAll();
        noneMayBe();
        fromTheMessThatIsNow();
        tellsWithoutButtons();
        tellsOfNone();
        tellsFewest();
        tellsLeastOfLike();
        end("bounds of what is seen");
    }

    // ---- see

    private static void noneAtFirst() {
        sentence("SEEN: none at first");
        FiveRemotes x = new FiveRemotes();
        same("count(8)", x.count(8), 0);
        same("unsee", x.unsee(), 0);
        same("may(0)", made("RT40T40T40T40").may(0), 256);
    }

    private static void presses() {
        sentence("see: OUTSIDE: n (0 to 3)");
        bounds("see, n", 0, 3, OUTSIDE, n -> new FiveRemotes().see(n, 0, 0));
        same("four", new FiveRemotes().see(4, 1111, 0), OUTSIDE);
    }

    private static void figures() {
        sentence("see: OUTSIDE: row (0 or more, n figures at most)");
        for (int n = 0; n <= 3; n++) {
            FiveRemotes x = new FiveRemotes();
            same("nothing", x.see(n, 0, 0), 1);
            same("the greatest of n figures", x.see(n, TENS[n] - 1, 0), 2);
            same("a figure more", x.see(n, TENS[n], 0), OUTSIDE);
            same("less than nothing", x.see(n, -1, 0), OUTSIDE);
            same("the least", x.see(n, Integer.MIN_VALUE, 0), OUTSIDE);
            same("the greatest", x.see(n, Integer.MAX_VALUE, 0), OUTSIDE);
            same("count(8)", x.count(8), 2);
        }
    }

    private static void lights() {
        sentence("see: OUTSIDE: lights (0 to 15)");
        bounds("see, lights", 0, 15, OUTSIDE, lights -> new FiveRemotes().see(0, 0, lights));
        bounds("see, lights", 0, 15, OUTSIDE, lights -> made("RT20").see(0, 0, lights));
    }

    private static void sixSeen() {
        sentence("see: how many there are (6 such at most). FULL: 6");
        FiveRemotes x = made("RT20B000");
        for (int many = 1; many <= 6; many++) same("see", x.see(1, 1, 1), many);
        same("a seventh", x.see(1, 1, 1), FULL);
        same("a seventh that would not be looked at", x.see(3, 999, 15), FULL);
        same("count(8)", x.count(8), 6);
        same("those that are not looked at are some, too", notLookedAt().see(0, 0, 0), FULL);
    }

    private static FiveRemotes notLookedAt() {
        FiveRemotes x = made("RT20B000");
        for (int many = 1; many <= 6; many++) same("see", x.see(1, 0, 15), many);
        return x;
    }

    private static void outsideAheadOfFull() {
        sentence("see: OUTSIDE; FULL");
        FiveRemotes x = made("RT20");
        for (int many = 1; many <= 6; many++) same("see", x.see(0, 0, 1), many);
        same("n", x.see(4, 0, 0), OUTSIDE);
        same("n", x.see(-1, 0, 0), OUTSIDE);
        same("row", x.see(1, 10, 0), OUTSIDE);
        same("row", x.see(1, -1, 0), OUTSIDE);
        same("lights", x.see(0, 0, 16), OUTSIDE);
        same("lights", x.see(0, 0, -1), OUTSIDE);
        same("none of these", x.see(0, 0, 15), FULL);
    }

    private static void unsee() {
        sentence("unsee: Nothing is SEEN: how much there was");
        FiveRemotes x = made("RT20T20");
        same("none", x.unsee(), 0);
        for (int many = 1; many <= 6; many++) {
            for (int i = 1; i <= many; i++) same("see", x.see(0, 0, 3), i);
            same("may(0)", x.may(0), 1);
            same("unsee", x.unsee(), many);
            same("count(8)", x.count(8), 0);
            same("may(0)", x.may(0), 4);
        }
        same("see", x.see(0, 0, 0), 1);
        same("may(0)", x.may(0), 1);
        same("the one that was first is forgotten", x.may(1), 0);
    }

    // ---- what is looked at

    private static void behindNoPress() {
        sentence("behind a ROW of n PRESSES (0: none)");
        for (int lights = 0; lights < 16; lights++) {
            FiveRemotes x = made("RT20T20T20T20B000");
            same("see", x.see(0, 0, lights), 1);
            same("may(0)", x.may(0), 1);
            int mess = lights % 2 * 1000 + lights / 2 % 2 * 100 + lights / 4 % 2 * 10 + lights / 8;
            same("may(1)", x.may(1), mess);
        }
    }

    private static int mayBehind(int n, int row, int lights) {
        FiveRemotes x = made("RT20B000B011");
        same("see", x.see(n, row, lights), 1);
        return x.may(0);
    }

    private static void behindRows() {
        sentence("LIGHTS would be L behind a ROW of n PRESSES");
        same("set", mayBehind(1, 2, 1), 2);
        same("set", mayBehind(1, 2, 0), 0);
        same("stepped", mayBehind(1, 1, 0), 1);
        same("stepped and set", mayBehind(2, 12, 1), 2);
        same("set and stepped", mayBehind(2, 21, 1), 0);
        same("set and stepped", mayBehind(2, 21, 0), 2);
        same("set and stepped twice", mayBehind(3, 211, 1), 2);
        same("stepped, set, stepped", mayBehind(3, 121, 0), 2);
        same("stepped twice and set", mayBehind(3, 112, 0), 0);
    }

    private static void noSuchButton() {
        sentence("such with a BUTTON that there is not are not looked at");
        String text = "RT20";
        for (int buttons = 0; buttons <= 6; buttons++) {
            for (int n = 1; n <= 3; n++) {
                for (int place = 0; place < n; place++) {
                    for (int figure = 0; figure <= 9; figure++) {
                        FiveRemotes x = made(text);
                        int row = 111 / TENS[3 - n] + (figure - 1) * TENS[n - 1 - place];
                        same("see", x.see(n, row, 1), 1);
                        boolean looked = buttons > 0 && figure >= 1 && figure <= buttons;
                        same("may(0) behind " + row + " of " + buttons, x.may(0), looked ? 1 : 2);
                    }
                }
            }
            text = text + "B000";
        }
    }

    private static void noSuchThing() {
        sentence("such with LIGHTS of THINGS that there are not are not looked at");
        String text = "R";
        for (int things = 0; things <= 4; things++) {
            for (int lights = 0; lights < 16; lights++) {
                FiveRemotes x = made(text);
                same("see", x.see(0, 0, lights), 1);
                boolean looked = lights < 1 << things;
                same("lights " + lights + " of " + things, x.may(0), looked ? 1 : 1 << things);
            }
            text = text + "T20";
        }
    }

    private static void lookedAtInAnotherRoom() {
        sentence("those not looked at stay, and are looked at in a ROOM that has their BUTTONS and THINGS");
        FiveRemotes x = made("RT20B000");
        same("see", x.see(1, 2, 1), 1);
        same("see", x.see(0, 0, 2), 2);
        same("may(0)", x.may(0), 2);
        makeAnew(x, "RT20T20B000B000");
        same("may(0)", x.may(0), 0);
        makeAnew(x, "RT20T20B000B020");
        same("may(0)", x.may(0), 1);
        same("may(1)", x.may(1), 1);
        makeAnew(x, "RT20T20B000");
        same("may(0)", x.may(0), 1);
        makeAnew(x, "R");
        same("may(0)", x.may(0), 1);
        same("count(8)", x.count(8), 2);
    }

    private static void allSixAreLookedAt() {
        sentence("so that all that is SEEN is so");
        for (int place = 0; place < 6; place++) {
            FiveRemotes x = made("RT20T20B000");
            for (int i = 0; i < 6; i++) x.see(i == place ? 0 : 1, 0, 1);
            same("looked at is the one of place " + place, x.may(0), 1);
            same("may(1)", x.may(1), 10);
        }
        FiveRemotes x = made("RT40B000");
        for (int n = 0; n <= 3; n++) same("see", x.see(n, 111 / TENS[3 - n], n == 1 ? 0 : 1), n + 1);
        same("lit, then off, then lit", x.may(0), 1);
        same("may(1)", x.may(1), 3);
    }

    // ---- may

    private static void mayWhat() {
        sentence("may: OUTSIDE");
        FiveRemotes x = made("RT20");
        bounds("may", 0, 2, OUTSIDE, x::may);
        bounds("may of nothing", 0, 2, OUTSIDE, what -> new FiveRemotes().may(what));
        x.see(0, 0, 0);
        x.see(0, 0, 1);
        bounds("may of none", 0, 2, OUTSIDE, x::may);
    }

    private static void howManyMayBe() {
        sentence("MAY: how many (what = 0)");
        same("nothing there", new FiveRemotes().may(0), 1);
        same("the fewest with a THING", made("RT20").may(0), 2);
        same("2 by 3 by 4", made("RT20T30T40").may(0), 24);
        same("the most", made("RT40T40T40T40").may(0), 256);
        FiveRemotes x = made("RT40T40T40T40");
        x.see(0, 0, 15);
        same("all lit", x.may(0), 81);
        x.see(0, 0, 0);
        same("all lit and all off", x.may(0), 0);
    }

    private static void leastThatMayBe() {
        sentence("MAY: the least (1)");
        same("nothing there", new FiveRemotes().may(1), 0);
        same("all", made("RT43T43").may(1), 0);
        FiveRemotes x = made("RT40T40T40T40B010B110B210B310");
        x.see(0, 0, 15);
        same("all lit", x.may(1), 1111);
        FiveRemotes last = made("RT20T20T20T20");
        last.see(0, 0, 8);
        same("the last THING", last.may(1), 1);
        FiveRemotes greatest = made("RT40T40B000B100");
        greatest.see(0, 0, 3);
        greatest.see(1, 1, 2);
        greatest.see(1, 2, 1);
        same("behind its last STATE each", greatest.may(1), 33);
        same("that alone", greatest.may(0), 1);
    }

    private static void thingsInOneState() {
        sentence("MAY: THINGS in one STATE (2: bits)");
        same("nothing there", new FiveRemotes().may(2), 0);
        same("all may be", made("RT20T20T20T20").may(2), 0);
        for (int lights = 0; lights < 16; lights++) {
            FiveRemotes x = made("RT40T40T40T40");
            x.see(0, 0, lights);
            same("those that are off, by lights " + lights, x.may(2), 15 - lights);
        }
        FiveRemotes x = made("RT20T20T20T20");
        x.see(0, 0, 5);
        same("one MESS alone", x.may(2), 15);
        FiveRemotes y = made("RT20T20T20T20B120");
        y.see(1, 9, 3);
        same("nothing is looked at", y.may(2), 0);
    }

    private static void thingsInOneStateOfAll() {
        sentence("MAY: THINGS that are in one STATE in all of them: in a STATE that is not off, in the midst as at the ends");
        FiveRemotes two = made("RT20T30T20");
        two.see(0, 0, 3);
        same("110 and 120", two.may(0), 2);
        same("the first THING is on, the last one off", two.may(2), 5);
        FiveRemotes three = made("RT20T40T20");
        three.see(0, 0, 7);
        same("111, 121 and 131", three.may(0), 3);
        same("the first THING is on, and the last one", three.may(2), 5);
        FiveRemotes midst = made("RT20T30B130B010");
        midst.see(2, 12, 2);
        same("01, 02, 10 and 11", midst.may(0), 4);
        same("01, 02, 10 and 11", midst.may(1), 1);
        same("the second THING is in 1 at the ends alone", midst.may(2), 0);
    }

    private static void noneMayBe() {
        sentence("MAY: NONE (of the latter two): there are none");
        FiveRemotes x = made("RT20");
        x.see(0, 0, 0);
        same("one", x.may(0), 1);
        x.see(0, 0, 1);
        same("how many", x.may(0), 0);
        same("the least", x.may(1), NONE);
        same("THINGS", x.may(2), NONE);
    }

    private static void fromTheMessThatIsNow() {
        sentence("from the MESS that is now: ACTS change nothing of what is SEEN");
        FiveRemotes x = made("RT20T20B000");
        x.see(1, 1, 1);
        same("may(1)", x.may(1), 0);
        x.press(0);
        x.step(1);
        x.miss(0);
        same("may(1)", x.may(1), 0);
        same("may(0)", x.may(0), 1);
        same("count(8)", x.count(8), 1);
    }

    // ---- tells

    private static void tellsWithoutButtons() {
        sentence("TELLS: NONE: there are no BUTTONS");
        same("nothing there", new FiveRemotes().tells(false), NONE);
        same("nothing there", new FiveRemotes().tells(true), NONE);
        same("no BUTTONS", made("RT20T20").tells(false), NONE);
        same("no BUTTONS", made("RT20T20").tells(true), NONE);
    }

    private static void tellsOfNone() {
        sentence("TELLS: NONE: there are none that MAY be");
        FiveRemotes x = made("RT20B000");
        x.see(0, 0, 0);
        same("which", x.tells(false), 0);
        same("how many", x.tells(true), 1);
        x.see(0, 0, 1);
        same("which", x.tells(false), NONE);
        same("how many", x.tells(true), NONE);
    }

    private static void tellsFewest() {
        sentence("TELLS: the most MESSES that MAY be and have like LIGHTS then are fewest");
        FiveRemotes last = made("RT20B010B010B010B010B010B000");
        same("the last BUTTON", last.tells(false), 5);
        same("how many", last.tells(true), 1);
        FiveRemotes most = made("RT40T40T40T40B010B000");
        same("the most MESSES", most.tells(false), 1);
        same("the most MESSES", most.tells(true), 81);
        FiveRemotes all = made("RT40B010B012");
        same("all are alike", all.tells(false), 0);
        same("all are alike", all.tells(true), 4);
        all.see(0, 0, 0);
        same("one that may be", all.tells(true), 1);
    }

    private static void tellsLeastOfLike() {
        sentence("TELLS: of like ones the least: which");
        FiveRemotes x = made("RT30B010B000B000");
        same("which", x.tells(false), 1);
        same("how many", x.tells(true), 2);
        same("the first", made("RT30B000B010B000").tells(false), 0);
    }
}
