/** Boundary sentences about THE TEXT, its FAULT and THE ROOM: promises 1 to 7, and part 1 of the terms. */
public final class TextBoundsTest extends Checks {
    private static final int LETTERS = 256;

    private TextBoundsTest() { }

    public static void main(String[] args) {
        nothingAtFirst();
        letters();
        fortyFour();
        outsideAheadOfFull();
        wiped();
        firstLetter();
        partsNoneOrMore();
        statesOfThing();
        firstStateOfThing();
        fourThings();
        sixButtons();
        thingToldAhead();
        kinds();
        stateBySet();
        otherThingByNeeds();
        nothingByOthers();
        whateverCameBehind();
        onlyNotAtItsEnd();
        lengthSetAside();
        faultKeepsTheRoom();
        roomAnswers();
        actsAreGone();
        keptIsGone();
        seenStays();
        seedStays();
        textStays();
        asTold();
        smallerAndGreaterRooms();
        textIsNotTheRoom();
        thingBounds();
        buttonBounds();
        numberedEachForItself();
        end("bounds of the text and the room");
    }

    // ---- the text

    private static void nothingAtFirst() {
        sentence("No things. At first there is nothing");
        FiveRemotes x = new FiveRemotes();
        counts(x, 0, 0, 0, 0, 0, 0, 0, 0, 0);
        same("wipe", x.wipe(), 0);
        same("fault", x.fault(), 0);
        same("thing(0, 0)", x.thing(0, 0), UNKNOWN);
        same("button(0, 0)", x.button(0, 0), UNKNOWN);
        same("find", x.find(), STATE);
        same("undo", x.undo(), STATE);
        same("all", x.all(), 0);
        same("fewest(0)", x.fewest(0, false), 0);
        same("needed(0)", x.needed(0), 0);
        same("unsee", x.unsee(), 0);
        same("may(0)", x.may(0), 1);
        same("tells", x.tells(false), NONE);
        same("again(0)", x.again(0), STATE);
        same("again(1)", x.again(1), STATE);
        same("seed(0)", x.seed(0), 0);
    }

    private static void letters() {
        sentence("A letter (0 to 255) comes behind THE TEXT. OUTSIDE");
        bounds("write", 0, 255, OUTSIDE, letter -> new FiveRemotes().write(letter));
        same("write to none", new FiveRemotes().write(0), 1);
    }

    private static void fortyFour() {
        sentence("THE TEXT is letters (44 at most). FULL: there are 44");
        FiveRemotes x = new FiveRemotes();
        for (int length = 1; length <= 44; length++) same("write", x.write(255), length);
        same("a 45th", x.write(255), FULL);
        same("a 45th", x.write(0), FULL);
        same("count(0)", x.count(0), 44);
        same("wipe", x.wipe(), 44);
        same("write", x.write('R'), 1);
        same("fault", x.fault(), NONE);
    }

    private static void outsideAheadOfFull() {
        sentence("write: OUTSIDE; FULL");
        FiveRemotes x = new FiveRemotes();
        for (int i = 0; i < 44; i++) x.write('R');
        same("256 to a full text", x.write(256), OUTSIDE);
        same("-1 to a full text", x.write(-1), OUTSIDE);
        same("255 to a full text", x.write(255), FULL);
    }

    private static void wiped() {
        sentence("THE TEXT is empty: how long it was");
        FiveRemotes x = new FiveRemotes();
        same("wipe of nothing", x.wipe(), 0);
        same("write", x.write('X'), 1);
        same("wipe of one", x.wipe(), 1);
        same("wipe again", x.wipe(), 0);
        same("fault of nothing", x.fault(), 0);
        same("count(0)", x.count(0), 0);
    }

    // ---- the fault

    private static int faultOf(String text) {
        FiveRemotes x = new FiveRemotes();
        for (int i = 0; i < text.length(); i++) x.write(text.charAt(i));
        return x.fault();
    }

    /** Behind the text each of all letters: the good ones answer what is due, the others the place where they stand. */
    private static void lettersBehind(String text, String good, int due) {
        for (int letter = 0; letter < LETTERS; letter++) {
            int want = good.indexOf((char) letter) >= 0 ? due : text.length();
            same("fault of " + text + " and letter " + letter, faultOf(text + (char) letter), want);
        }
    }

    private static void firstLetter() {
        sentence("A ROOM is a TEXT: R");
        same("fault of nothing", faultOf(""), 0);
        lettersBehind("", "R", NONE);
    }

    private static void partsNoneOrMore() {
        sentence("then PARTS, none or more");
        same("none", faultOf("R"), NONE);
        same("one", faultOf("RT20"), NONE);
        same("the most", faultOf(GREATEST), NONE);
        lettersBehind("R", "T", 2);
        lettersBehind("RT20", "TB", 5);
        lettersBehind("RT20B000", "TB", 9);
    }

    private static void statesOfThing() {
        sentence("a THING with s (2 to 4) STATES");
        lettersBehind("RT", "234", 3);
        lettersBehind("RT20B000T", "234", 10);
    }

    private static void firstStateOfThing() {
        sentence("at first it is in i (less than s)");
        lettersBehind("RT2", "01", NONE);
        lettersBehind("RT3", "012", NONE);
        lettersBehind("RT4", "0123", NONE);
    }

    private static void fourThings() {
        sentence("THINGS (4 at most)");
        same("four", faultOf("RT20T20T20T20"), NONE);
        lettersBehind("RT20T20T20", "TB", 11);
        lettersBehind("RT20T20T20T20", "B", 14);
        same("four, and buttons between", faultOf("RT20B000T20B000T20B000T20B000"), NONE);
        lettersBehind("RT20B000T20B000T20B000T20B000", "B", 30);
        same("a fifth one whole", faultOf("RT20T20T20T20T20"), 13);
    }

    private static void sixButtons() {
        sentence("BUTTONS (6 at most)");
        same("six", faultOf("RT20B000B000B000B000B000B000"), NONE);
        lettersBehind("RT20B000B000B000B000B000", "TB", 25);
        lettersBehind("RT20B000B000B000B000B000B000", "T", 29);
        same("a seventh one whole", faultOf("RT20B000B000B000B000B000B000B000"), 28);
        same("a thing behind six", faultOf("RT20B000B000B000B000B000B000T43"), NONE);
        lettersBehind("RT20B000B000B000B000B000B000T43", "T", 32);
    }

    private static void thingToldAhead() {
        sentence("a BUTTON of THING t (told ahead)");
        same("none was told", faultOf("RB"), 1);
        same("none was told", faultOf("RB000T20"), 1);
        lettersBehind("RT20B", "0", 6);
        lettersBehind("RT20T20B", "01", 9);
        lettersBehind("RT20T20T20B", "012", 12);
        lettersBehind("RT20T20T20T20B", "0123", 15);
        same("told behind", faultOf("RT20B100T20"), 5);
        same("told ahead", faultOf("RT20T20B100"), NONE);
    }

    private static void kinds() {
        sentence("of KIND k: 0 STEP, 1 SET, 2 SHARED, 3 NEEDS");
        lettersBehind("RT20T20B0", "0123", 10);
        lettersBehind("RT20T20B1", "0123", 10);
        // with one THING told ahead there is no other THING that it could need
        lettersBehind("RT20B0", "012", 7);
        same("told behind", faultOf("RT20B031T20"), 6);
    }

    private static void stateBySet() {
        sentence("a: by SET a STATE of t");
        lettersBehind("RT20B01", "01", NONE);
        lettersBehind("RT30B01", "012", NONE);
        lettersBehind("RT40B01", "0123", NONE);
        lettersBehind("RT20T40B01", "01", NONE);
        lettersBehind("RT20T40B11", "0123", NONE);
    }

    private static void otherThingByNeeds() {
        sentence("a: by NEEDS another THING (told ahead)");
        lettersBehind("RT20T20B03", "1", NONE);
        lettersBehind("RT20T20B13", "0", NONE);
        lettersBehind("RT20T20T20T20B03", "123", NONE);
        lettersBehind("RT20T20T20T20B13", "023", NONE);
        lettersBehind("RT20T20T20T20B23", "013", NONE);
        lettersBehind("RT20T20T20T20B33", "012", NONE);
        same("told behind", faultOf("RT20T20B032T20"), 10);
    }

    private static void nothingByOthers() {
        sentence("a: by others 0");
        lettersBehind("RT40T40B00", "0", NONE);
        lettersBehind("RT40T40B10", "0", NONE);
        lettersBehind("RT40T40B02", "0", NONE);
        lettersBehind("RT40T40B12", "0", NONE);
    }

    private static void whateverCameBehind() {
        sentence("the first letter by which THE TEXT can be no ROOM, whatever came behind it");
        same("good letters behind", faultOf("RT22T20B000"), 3);
        same("another fault behind", faultOf("RT5T9X"), 2);
        same("at the first", faultOf("XRT20"), 0);
        same("needs with one thing, a good one behind", faultOf("RT20B030"), 6);
        StringBuilder text = new StringBuilder("RT20B0000");
        while (text.length() <= 44) {
            same("fault of " + text, faultOf(text.toString()), 8);
            text.append('0');
        }
    }

    private static void onlyNotAtItsEnd() {
        sentence("its length, if it is only not at its end; NONE: none");
        String ends = " 1 4 7 10 13 17 21 25 29 33 37 ";
        for (int length = 1; length <= GREATEST.length(); length++) {
            int due = ends.contains(" " + length + " ") ? NONE : length;
            same("the first letters, " + length, faultOf(GREATEST.substring(0, length)), due);
        }
        same("not begun", faultOf(""), 0);
    }

    private static void lengthSetAside() {
        sentence("(its length set aside)");
        lettersBehind(GREATEST, "", NONE);
        for (int letters = GREATEST.length(); letters < 44; letters++) {
            StringBuilder text = new StringBuilder(GREATEST);
            while (text.length() <= letters) text.append("T20B000".charAt(text.length() - GREATEST.length()));
            same("fault of " + text, faultOf(text.toString()), 37);
        }
    }

    // ---- the room

    private static void faultKeepsTheRoom() {
        sentence("room: STATE: a FAULT");
        same("nothing told", new FiveRemotes().room(), STATE);
        for (int length = 0; length < GREATEST.length(); length++) {
            FiveRemotes x = made("RT32B000");
            tell(x, GREATEST.substring(0, length));
            if (x.fault() == NONE) taken("room of the first letters, " + length, x.room());
            else same("room of the first letters, " + length, x.room(), STATE);
        }
        FiveRemotes x = made("RT32B000");
        same("press", x.press(0), 0);
        tell(x, "RT4");
        same("not at its end", x.room(), STATE);
        counts(x, 3, 1, 1, 0, 0, 0, 1, 1, 0);
        tell(x, "RT40x");
        same("a letter too many", x.room(), STATE);
        counts(x, 5, 1, 1, 0, 0, 0, 1, 1, 0);
        same("states", x.thing(0, 0), 3);
    }

    private static void roomAnswers() {
        sentence("room: 10 times THINGS, and BUTTONS");
        String[] texts = {"R", "RT20", "RT20B000", "RT20B000B000B000B000B000B000", "RT20T20T20T20", GREATEST};
        int[] dues = {0, 10, 11, 16, 40, 46};
        for (int i = 0; i < texts.length; i++) {
            FiveRemotes x = new FiveRemotes();
            tell(x, texts[i]);
            same("room of " + texts[i], x.room(), dues[i]);
            same("count(1)", x.count(1), dues[i] / 10);
            same("count(2)", x.count(2), dues[i] % 10);
        }
    }

    private static void actsAreGone() {
        sentence("room: THE ROW of ACTS is empty");
        FiveRemotes x = made("RT40B000");
        for (int i = 0; i < 15; i++) x.press(0);
        same("count(7)", x.count(7), 14);
        same("room", x.room(), 11);
        same("count(7)", x.count(7), 0);
        same("undo", x.undo(), STATE);
        same("press", x.press(0), 1);
        same("undo", x.undo(), 0);
        same("undo", x.undo(), STATE);
    }

    private static void keptIsGone() {
        sentence("room: what was kept is gone");
        FiveRemotes x = made("RT40B000");
        same("keep(0)", x.keep(0), 0);
        same("keep(1)", x.keep(1), 0);
        same("room", x.room(), 11);
        same("again(0)", x.again(0), STATE);
        same("again(1)", x.again(1), STATE);
        same("keep(1)", x.keep(1), 0);
        same("again(0)", x.again(0), STATE);
        same("again(1)", x.again(1), 0);
    }

    private static void seenStays() {
        sentence("room: SEEN stays");
        FiveRemotes x = made("RT20T20");
        same("see", x.see(0, 0, 2), 1);
        same("may(1)", x.may(1), 1);
        makeAnew(x, "RT40T40");
        same("count(8)", x.count(8), 1);
        same("may(0)", x.may(0), 3);
        same("may(1)", x.may(1), 1);
        same("unsee", x.unsee(), 1);
    }

    private static void seedStays() {
        sentence("room: THE SEED stays");
        FiveRemotes x = made("R");
        same("seed", x.seed(-12345), 0);
        same("room", x.room(), 0);
        same("seed", x.seed(0), -12345);
    }

    private static void textStays() {
        sentence("room: THE TEXT stays");
        FiveRemotes x = made(GREATEST);
        same("count(0)", x.count(0), 37);
        same("fault", x.fault(), NONE);
        same("room again", x.room(), 46);
        same("wipe", x.wipe(), 37);
    }

    private static void asTold() {
        sentence("When THE ROOM is made anew, all THINGS are as told, the one for all BELIEVES just that, no PRESSES are counted");
        FiveRemotes x = made(GREATEST);
        for (int time = 0; time < 2; time++) {
            counts(x, 37, 4, 6, 123, 123, 14, 0, 0, 0);
            same("press", x.press(0), 1123);
            same("miss", x.miss(1), 1223);
            same("step", x.step(3), 0);
            counts(x, 37, 4, 6, 1120, 1223, 7, 2, 3, 0);
            same("room", x.room(), 46);
        }
    }

    private static void smallerAndGreaterRooms() {
        sentence("THE TEXT is THE ROOM: smaller ones and greater ones by turns");
        FiveRemotes x = made(GREATEST);
        makeAnew(x, "RT43B012");
        counts(x, 8, 1, 1, 3, 3, 1, 0, 0, 0);
        same("thing(1, 0)", x.thing(1, 0), UNKNOWN);
        same("button(1, 0)", x.button(1, 0), UNKNOWN);
        same("press(1)", x.press(1), UNKNOWN);
        same("press(0)", x.press(0), 2);
        same("may(0)", x.may(0), 4);
        same("worst(2, 1)", x.worst(2, 1), 4);
        makeAnew(x, "R");
        counts(x, 1, 0, 0, 0, 0, 0, 0, 0, 0);
        same("thing(0, 0)", x.thing(0, 0), UNKNOWN);
        same("may(0)", x.may(0), 1);
        makeAnew(x, GREATEST);
        counts(x, 37, 4, 6, 123, 123, 14, 0, 0, 0);
        same("may(0)", x.may(0), 96);
        same("press(1)", x.press(1), 223);
        makeAnew(x, "RT40T40T40T40B220B110B010B310B010B110");
        for (int states = 4; states >= 2; states--) {
            makeAnew(x, "RT" + states + "0B000");
            same("worst(0, 0)", x.worst(0, 0), states - 1);
            same("worst(0, 1)", x.worst(0, 1), states);
            same("share", x.share(0, 0, true), states - 1);
            same("may(0)", x.may(0), states);
            same("sure(0)", x.sure(0, true), NONE);
        }
    }

    private static void textIsNotTheRoom() {
        sentence("THE TEXT is written and wiped, and THE ROOM stays as it was made");
        FiveRemotes x = made("RT42B000");
        same("wipe", x.wipe(), 8);
        counts(x, 0, 1, 1, 2, 2, 1, 0, 0, 0);
        write(x, "RT20T20");
        counts(x, 7, 1, 1, 2, 2, 1, 0, 0, 0);
        same("press", x.press(0), 3);
    }

    private static void thingBounds() {
        sentence("thing: UNKNOWN; OUTSIDE");
        String text = "R";
        for (int things = 0; things <= 4; things++) {
            FiveRemotes x = made(text);
            bounds("thing of " + things, 0, things - 1, UNKNOWN, thing -> x.thing(thing, 0));
            int last = things - 1;
            if (things > 0) {
                bounds("what of a thing", 0, 2, OUTSIDE, what -> x.thing(last, what));
                same("states", x.thing(last, 0), 4);
                same("state", x.thing(last, 1), last);
                same("believed", x.thing(last, 2), last);
            }
            same("UNKNOWN ahead of OUTSIDE", x.thing(things, 3), UNKNOWN);
            same("UNKNOWN ahead of OUTSIDE", x.thing(-1, -1), UNKNOWN);
            text = text + "T4" + things;
        }
    }

    private static void buttonBounds() {
        sentence("button: UNKNOWN; OUTSIDE");
        String text = "RT20T40";
        for (int buttons = 0; buttons <= 6; buttons++) {
            FiveRemotes x = made(text);
            bounds("button of " + buttons, 0, buttons - 1, UNKNOWN, button -> x.button(button, 0));
            int last = buttons - 1;
            if (buttons > 0) bounds("what of a button", 0, 2, OUTSIDE, what -> x.button(last, what));
            same("UNKNOWN ahead of OUTSIDE", x.button(buttons, 3), UNKNOWN);
            same("UNKNOWN ahead of OUTSIDE", x.button(-1, -1), UNKNOWN);
            text = text + "B113";
        }
    }

    private static void numberedEachForItself() {
        sentence("THINGS, BUTTONS are numbered as they are told, each for itself");
        FiveRemotes x = made("RT20B011T31B120T42B231T43B313B020");
        int[][] things = {{2, 0}, {3, 1}, {4, 2}, {4, 3}};
        int[][] buttons = {{0, 1, 1}, {1, 2, 0}, {2, 3, 1}, {3, 1, 3}, {0, 2, 0}};
        for (int thing = 0; thing < 4; thing++) {
            for (int what = 0; what < 2; what++) same("thing " + thing, x.thing(thing, what), things[thing][what]);
        }
        for (int button = 0; button < 5; button++) {
            for (int what = 0; what < 3; what++) same("button " + button, x.button(button, what), buttons[button][what]);
        }
    }
}
