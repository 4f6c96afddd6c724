/** For each promise of ../shared/DOC.md: ordinary inputs, edges and refusals, with answers worked out by hand. */
public final class PromisesTest extends Checks {
    /** Thing 0: 2 states, in 0. Thing 1: 3, in 1. Thing 2: 4, in 2. Buttons: step 0; set 1 to 2; shared 1 and 2; 2 needs 0. */
    private static final String ROOM = "RT20T31T42B000B112B120B230";
    private static int promise = 0;

    private PromisesTest() { }

    public static void main(String[] args) {
        newObject();
        write();
        wipe();
        fault();
        room();
        thing();
        button();
        press();
        miss();
        step();
        find();
        undo();
        after();
        all();
        fewest();
        worst();
        sure();
        needed();
        judge();
        see();
        unsee();
        may();
        tells();
        share();
        rests();
        weak();
        seed();
        evenings();
        keep();
        again();
        count();
        if (promise != 31) wrong("promises that were tested: " + promise);
        end("promises");
    }

    private static void promise(int number) {
        sentence("Promise " + number);
        if (number != promise + 1) wrong("comes behind promise " + promise);
        promise = number;
    }

    private static void newObject() {
        promise(1);
        FiveRemotes x = new FiveRemotes();
        counts(x, 0, 0, 0, 0, 0, 0, 0, 0, 0);
        same("fault", x.fault(), 0);
        same("room", x.room(), -3);
        same("all", x.all(), 0);
        same("may", x.may(0), 1);
        same("seed", x.seed(5), 0);
        same("again(0)", x.again(0), -3);
        same("again(1)", x.again(1), -3);
        same("undo", x.undo(), -3);
        same("UNKNOWN", FiveRemotes.UNKNOWN, -1);
        same("OUTSIDE", FiveRemotes.OUTSIDE, -2);
        same("STATE", FiveRemotes.STATE, -3);
        same("FULL", FiveRemotes.FULL, -4);
        same("NONE", FiveRemotes.NONE, -9);
    }

    private static void write() {
        promise(2);
        FiveRemotes x = new FiveRemotes();
        same("write(-1)", x.write(-1), -2);
        same("write(256)", x.write(256), -2);
        same("write(least)", x.write(Integer.MIN_VALUE), -2);
        same("letters", x.count(0), 0);
        same("write(0)", x.write(0), 1);
        same("write(255)", x.write(255), 2);
        for (int i = 3; i <= 44; i++) same("write", x.write('R'), i);
        same("write to a full text", x.write('R'), -4);
        same("OUTSIDE ahead of FULL", x.write(256), -2);
        same("letters", x.count(0), 44);
    }

    private static void wipe() {
        promise(3);
        FiveRemotes x = made(ROOM);
        same("wipe", x.wipe(), 26);
        same("wipe again", x.wipe(), 0);
        same("letters", x.count(0), 0);
        same("things stay", x.count(1), 3);
        same("write", x.write('R'), 1);
        same("fault", x.fault(), -9);
    }

    private static void faultOf(String text, int due) {
        FiveRemotes x = new FiveRemotes();
        tell(x, text);
        same("fault of " + text, x.fault(), due);
        same("length stays", x.count(0), text.length());
    }

    private static void fault() {
        promise(4);
        faultOf("", 0);
        faultOf("X", 0);
        faultOf("T20", 0);
        faultOf("R", -9);
        faultOf("RR", 1);
        faultOf("RB", 1);
        faultOf("RT", 2);
        faultOf("RT1", 2);
        faultOf("RT5", 2);
        faultOf("RTT", 2);
        faultOf("RT2", 3);
        faultOf("RT22", 3);
        faultOf("RT33", 3);
        faultOf("RT44", 3);
        faultOf("RT21", -9);
        faultOf("RT32", -9);
        faultOf("RT43", -9);
        faultOf("RT20x", 4);
        faultOf("RT20B", 5);
        faultOf("RT20B1", 5);
        faultOf("RT20B0", 6);
        faultOf("RT20B03", 6);
        faultOf("RT20B04", 6);
        faultOf("RT20B00", 7);
        faultOf("RT20B001", 7);
        faultOf("RT20B021", 7);
        faultOf("RT20B012", 7);
        faultOf("RT20B011", -9);
        faultOf("RT30B012", -9);
        faultOf("RT20T20B030", 10);
        faultOf("RT20T20B032", 10);
        faultOf("RT20T20B031", -9);
        faultOf("RT20T20B131", 10);
        faultOf("RT20T20B130", -9);
        faultOf("RT20T20B034", 10);
        faultOf("RT20T40B013", 10);
        faultOf("RT20T40B113", -9);
        faultOf("RT20T20B14", 9);
        faultOf("RT20B000T20B130", -9);
        faultOf("RT20B000T20B030T99", 14);
        faultOf("RT20T20T20T20", -9);
        faultOf("RT20T20T20T20T", 13);
        faultOf("RT20T20T20T20B3", 15);
        faultOf("RT20T20T20T20B4", 14);
        faultOf("RT20B000B000B000B000B000B000", -9);
        faultOf("RT20B000B000B000B000B000B000B", 28);
        faultOf("RT20B000B000B000B000B000B000T40", -9);
    }

    private static void room() {
        promise(5);
        FiveRemotes x = new FiveRemotes();
        tell(x, "RT2");
        same("room with a fault", x.room(), -3);
        tell(x, ROOM);
        same("nothing until it is made", x.count(1), 0);
        same("room", x.room(), 34);
        same("see", x.see(0, 0, 3), 1);
        same("seed", x.seed(77), 0);
        same("press", x.press(0), 112);
        same("keep", x.keep(0), 1);
        same("step", x.step(0), 0);
        counts(x, 26, 3, 4, 12, 112, 6, 1, 2, 1);
        same("write", x.write('x'), 27);
        same("refused", x.room(), -3);
        counts(x, 27, 3, 4, 12, 112, 6, 1, 2, 1);
        same("kept stays", x.again(0), 1);
        same("step", x.step(2), 3);
        tell(x, "RT43B000");
        same("room", x.room(), 11);
        counts(x, 8, 1, 1, 3, 3, 1, 0, 0, 1);
        same("kept is gone", x.again(0), -3);
        same("acts are gone", x.undo(), -3);
        same("seed stays", x.seed(0), 77);
        tell(x, "R");
        same("empty room", x.room(), 0);
        counts(x, 1, 0, 0, 0, 0, 0, 0, 0, 1);
    }

    private static void thing() {
        promise(6);
        FiveRemotes x = made(ROOM);
        same("press", x.press(0), 112);
        same("miss", x.miss(1), 122);
        for (int what = 0; what < 3; what++) {
            same("thing 0, " + what, x.thing(0, what), new int[] {2, 1, 1}[what]);
            same("thing 1, " + what, x.thing(1, what), new int[] {3, 1, 2}[what]);
            same("thing 2, " + what, x.thing(2, what), new int[] {4, 2, 2}[what]);
        }
        same("thing(-1, 0)", x.thing(-1, 0), -1);
        same("thing(3, 0)", x.thing(3, 0), -1);
        same("UNKNOWN ahead of OUTSIDE", x.thing(3, 3), -1);
        same("thing(0, 3)", x.thing(0, 3), -2);
        same("thing(0, -1)", x.thing(0, -1), -2);
    }

    private static void button() {
        promise(7);
        FiveRemotes x = made(ROOM);
        int[][] due = {{0, 0, 0}, {1, 1, 2}, {1, 2, 0}, {2, 3, 0}};
        for (int button = 0; button < 4; button++) {
            for (int what = 0; what < 3; what++) {
                same("button(" + button + ", " + what + ")", x.button(button, what), due[button][what]);
            }
        }
        same("button(-1, 0)", x.button(-1, 0), -1);
        same("button(4, 0)", x.button(4, 0), -1);
        same("UNKNOWN ahead of OUTSIDE", x.button(4, 3), -1);
        same("button(0, 3)", x.button(0, 3), -2);
        same("button(0, -1)", x.button(0, -1), -2);
    }

    private static void press() {
        promise(8);
        FiveRemotes x = made(ROOM);
        same("needs a thing that is off", x.press(3), 12);
        same("counts", x.count(6), 1);
        same("step", x.press(0), 112);
        same("needs", x.press(3), 113);
        same("needs, behind the last state", x.press(3), 110);
        same("shared", x.press(2), 101);
        same("set", x.press(1), 121);
        same("set again", x.press(1), 121);
        same("shared", x.press(2), 100);
        same("step behind the last state", x.press(0), 0);
        same("shared", x.press(2), 11);
        same("press(4)", x.press(4), -1);
        same("press(-1)", x.press(-1), -1);
        counts(x, 26, 3, 4, 11, 11, 6, 10, 10, 0);
        same("by hand", x.step(0), 1);
        same("needs, what is", x.press(3), 112);
        same("needs, what is believed", x.count(4), 11);
    }

    private static void miss() {
        promise(9);
        FiveRemotes x = made(ROOM);
        same("miss(0)", x.miss(0), 112);
        same("miss(3)", x.miss(3), 113);
        counts(x, 26, 3, 4, 12, 113, 6, 2, 2, 0);
        same("press needs what is off", x.press(3), 12);
        same("believed", x.count(4), 110);
        same("miss(4)", x.miss(4), -1);
        same("miss(-1)", x.miss(-1), -1);
        counts(x, 26, 3, 4, 12, 110, 6, 3, 3, 0);
    }

    private static void step() {
        promise(10);
        FiveRemotes x = made(ROOM);
        same("step(2)", x.step(2), 3);
        same("step(2)", x.step(2), 0);
        same("step(1)", x.step(1), 2);
        same("step(1)", x.step(1), 0);
        same("step(0)", x.step(0), 1);
        counts(x, 26, 3, 4, 100, 12, 1, 0, 5, 0);
        same("step(3)", x.step(3), -1);
        same("step(-1)", x.step(-1), -1);
        counts(x, 26, 3, 4, 100, 12, 1, 0, 5, 0);
    }

    private static void find() {
        promise(11);
        FiveRemotes x = made(ROOM);
        same("none otherwise", x.find(), -3);
        same("is no act then", x.count(7), 0);
        same("step", x.step(0), 1);
        same("miss", x.miss(2), 0);
        same("three otherwise", x.find(), 3);
        counts(x, 26, 3, 4, 112, 112, 7, 1, 3, 0);
        same("none otherwise", x.find(), -3);
        same("miss", x.miss(1), 122);
        same("one otherwise", x.find(), 1);
        same("acts", x.count(7), 5);
    }

    private static void undo() {
        promise(12);
        FiveRemotes x = made(ROOM);
        same("undo nothing", x.undo(), -3);
        same("press", x.press(0), 112);
        same("miss", x.miss(1), 122);
        same("step", x.step(2), 3);
        same("find", x.find(), 2);
        same("undo find", x.undo(), 3);
        counts(x, 26, 3, 4, 113, 122, 7, 2, 3, 0);
        same("undo step", x.undo(), 2);
        counts(x, 26, 3, 4, 112, 122, 7, 2, 2, 0);
        same("undo miss", x.undo(), 1);
        counts(x, 26, 3, 4, 112, 112, 7, 1, 1, 0);
        same("undo press", x.undo(), 0);
        counts(x, 26, 3, 4, 12, 12, 6, 0, 0, 0);
        same("undo nothing", x.undo(), -3);
        for (int i = 1; i <= 16; i++) same("press", x.press(0), i % 2 == 1 ? 112 : 12);
        same("step", x.step(0), 1);
        counts(x, 26, 3, 4, 112, 12, 7, 16, 14, 0);
        for (int left = 13; left >= 0; left--) same("undo", x.undo(), left);
        same("the first ones are forgotten", x.undo(), -3);
        counts(x, 26, 3, 4, 112, 112, 7, 3, 0, 0);
    }

    private static void after() {
        promise(13);
        FiveRemotes x = made(ROOM);
        same("after(1, 1)", x.after(1, 1), 112);
        same("after(1, 4)", x.after(1, 4), 12);
        same("after(2, 14)", x.after(2, 14), 113);
        same("after(2, 41)", x.after(2, 41), 112);
        same("after(6, 144332)", x.after(6, 144332), 120);
        same("after(0, 0)", x.after(0, 0), -2);
        same("after(7, 1111111)", x.after(7, 1111111), -2);
        same("after(-1, 1)", x.after(-1, 1), -2);
        same("after(1, -1)", x.after(1, -1), -2);
        same("after(1, 10)", x.after(1, 10), -2);
        same("after(6, 1000000)", x.after(6, 1000000), -2);
        same("after(1, 0)", x.after(1, 0), -3);
        same("after(1, 5)", x.after(1, 5), -3);
        same("after(2, 1)", x.after(2, 1), -3);
        same("after(3, 101)", x.after(3, 101), -3);
        same("after(3, 115)", x.after(3, 115), -3);
        same("OUTSIDE ahead of STATE", x.after(1, 55), -2);
        counts(x, 26, 3, 4, 12, 12, 6, 0, 0, 0);
    }

    private static void all() {
        promise(14);
        FiveRemotes x = made(ROOM);
        same("all", x.all(), 101);
        counts(x, 26, 3, 4, 12, 12, 6, 0, 0, 0);
        same("step", x.step(0), 1);
        same("all, from what is", x.all(), 0);
        same("no buttons", made("RT21T43").all(), 13);
    }

    private static void fewest() {
        promise(15);
        FiveRemotes x = made(ROOM);
        same("none needed", x.fewest(12, false), 0);
        same("none needed", x.fewest(12, true), 0);
        same("one", x.fewest(112, false), 1);
        same("one", x.fewest(112, true), 1);
        same("the least of two rows", x.fewest(122, true), 12);
        same("four", x.fewest(13, false), 3);
        same("four", x.fewest(13, true), 141);
        same("figures that are no states", x.fewest(200, false), -2);
        same("figures that are no states", x.fewest(30, true), -2);
        same("figures that are no states", x.fewest(14, false), -2);
        same("too many figures", x.fewest(1000, false), -2);
        same("below nothing", x.fewest(-1, true), -2);
        same("below nothing", x.fewest(-10, true), -2);
        counts(x, 26, 3, 4, 12, 12, 6, 0, 0, 0);
        FiveRemotes set = made("RT20T20B011");
        same("never", set.fewest(1, false), -9);
        same("never", set.fewest(1, true), -9);
        FiveRemotes chain = made("RT40T40T40B000B130B231");
        same("six", chain.fewest(321, false), 6);
        same("six", chain.fewest(321, true), 111223);
        same("nine", chain.fewest(333, false), 9);
        same("nine", chain.fewest(333, true), 111222333);
        same("what needs a thing goes on ahead of it", chain.fewest(33, false), 10);
        same("ten figures are no row", chain.fewest(33, true), -9);
        FiveRemotes long10 = made("RT41T41T41T41B000B100B200B300");
        same("twelve", long10.fewest(0, false), 12);
        same("twelve figures are no row", long10.fewest(0, true), -9);
        same("nine", long10.fewest(1, false), 9);
        same("nine", long10.fewest(1, true), 111222333);
    }

    private static void worst() {
        promise(16);
        FiveRemotes x = made("RT40B000");
        same("worst", x.worst(0, 0), 3);
        same("can", x.worst(0, 1), 4);
        FiveRemotes set = made("RT20T30B011B112");
        same("worst", set.worst(11, 0), 1);
        same("can", set.worst(11, 1), 2);
        same("worst", set.worst(12, 0), 2);
        same("can", set.worst(12, 1), 6);
        same("worst", set.worst(1, 0), 0);
        same("can", set.worst(1, 1), 1);
        same("worst, mess", set.worst(20, 0), -2);
        same("worst, mess", set.worst(-1, 0), -2);
        same("worst, what", set.worst(0, 2), -2);
        same("worst, what", set.worst(0, -1), -2);
        FiveRemotes most = made("RT40T40T40T40B000B100B200B300");
        same("worst of the most messes", most.worst(3333, 0), 12);
        same("can of the most messes", most.worst(3333, 1), 256);
        same("fewest to the last mess", most.fewest(3333, false), 12);
        same("all of them may be", most.may(0), 256);
        same("all buttons", most.needed(3333), 15);
        same("share", most.share(3, 3333, true), 255);
        same("share", most.share(3, 3333, false), 4);
        same("worst of nothing", made("R").worst(0, 0), 0);
        same("can of nothing", made("R").worst(0, 1), 1);
    }

    private static void sure() {
        promise(17);
        FiveRemotes x = made("RT20T30B000B011B112B110");
        same("two", x.sure(10, false), 2);
        same("two, the least", x.sure(10, true), 24);
        same("three", x.sure(0, false), 3);
        same("three, the least", x.sure(0, true), 214);
        same("none", x.sure(11, false), -9);
        same("none", x.sure(11, true), -9);
        same("mess", x.sure(20, false), -2);
        same("mess", x.sure(-1, true), -2);
        same("one", made("RT30B000B011").sure(1, false), 1);
        same("one", made("RT30B000B011").sure(1, true), 2);
        same("three", made("RT40B000B011").sure(3, true), 211);
        same("four are too many", made("RT40B000B011").sure(0, true), -9);
        same("no presses", made("R").sure(0, false), 0);
        same("no presses", made("R").sure(0, true), 0);
        same("mess of nothing", made("R").sure(1, true), -2);
    }

    private static void needed() {
        promise(18);
        FiveRemotes x = made(ROOM);
        same("none", x.needed(12), 0);
        same("the first", x.needed(112), 1);
        same("two", x.needed(13), 9);
        same("set", x.needed(22), 2);
        same("never", made("RT20T20B011").needed(1), -9);
        same("the least of like ones", made("RT20B000B000B011B000").needed(1), 1);
        same("all", made("RT20T20B000B100").needed(11), 3);
        same("fewer ahead of less", made("RT20T20B000B100B020").needed(11), 4);
        same("mess", x.needed(14), -2);
        same("mess", x.needed(-1), -2);
        counts(x, 26, 3, 4, 12, 12, 6, 0, 0, 0);
    }

    private static void judge() {
        promise(19);
        FiveRemotes x = made(ROOM);
        same("none", x.judge(2, 14), -9);
        same("one", x.judge(1, 1), -9);
        same("one", x.judge(1, 4), 0);
        same("changes nothing", x.judge(2, 41), 0);
        same("the second changes nothing", x.judge(3, 224), 1);
        same("the last changes nothing", x.judge(3, 114), 2);
        same("no such button", x.judge(3, 151), 1);
        same("no such button", x.judge(2, 1), 0);
        same("six", x.judge(6, 144444), -9);
        same("six", x.judge(6, 144445), 5);
        same("judge(0, 0)", x.judge(0, 0), -2);
        same("judge(7, 1)", x.judge(7, 1), -2);
        same("judge(1, 11)", x.judge(1, 11), -2);
        same("judge(1, -1)", x.judge(1, -1), -2);
        counts(x, 26, 3, 4, 12, 12, 6, 0, 0, 0);
    }

    private static void see() {
        promise(20);
        FiveRemotes x = made("RT20T20B000");
        same("see(-1, 0, 0)", x.see(-1, 0, 0), -2);
        same("see(4, 1111, 0)", x.see(4, 1111, 0), -2);
        same("see(0, 1, 0)", x.see(0, 1, 0), -2);
        same("see(1, 10, 0)", x.see(1, 10, 0), -2);
        same("see(1, -1, 0)", x.see(1, -1, 0), -2);
        same("see(1, 1, 16)", x.see(1, 1, 16), -2);
        same("see(1, 1, -1)", x.see(1, 1, -1), -2);
        same("seen", x.count(8), 0);
        same("see(0, 0, 15)", x.see(0, 0, 15), 1);
        same("see(3, 999, 0)", x.see(3, 999, 0), 2);
        same("see(1, 1, 0)", x.see(1, 1, 0), 3);
        same("see(1, 0, 0)", x.see(1, 0, 0), 4);
        same("see(2, 1, 0)", x.see(2, 1, 0), 5);
        same("see(1, 1, 0)", x.see(1, 1, 0), 6);
        same("a seventh", x.see(1, 1, 0), -4);
        same("OUTSIDE ahead of FULL", x.see(1, 1, 16), -2);
        same("seen", x.count(8), 6);
        same("only one mess", x.may(0), 1);
        same("thing 0 in 1", x.may(1), 10);
    }

    private static void unsee() {
        promise(21);
        FiveRemotes x = made("RT20T20B000");
        same("unsee", x.unsee(), 0);
        same("see", x.see(0, 0, 1), 1);
        same("see", x.see(0, 0, 2), 2);
        same("may", x.may(0), 0);
        same("unsee", x.unsee(), 2);
        same("may", x.may(0), 4);
        same("unsee", x.unsee(), 0);
        same("see", x.see(0, 0, 1), 1);
    }

    private static void may() {
        promise(22);
        FiveRemotes x = made("RT20T31B000B100B120");
        same("all", x.may(0), 6);
        same("least", x.may(1), 0);
        same("none in one state", x.may(2), 0);
        same("thing 1 is lit", x.see(0, 0, 2), 1);
        same("two", x.may(0), 2);
        same("least", x.may(1), 1);
        same("thing 0", x.may(2), 1);
        same("lit behind another press", x.see(1, 2, 2), 2);
        same("one", x.may(0), 1);
        same("least", x.may(1), 1);
        same("both", x.may(2), 3);
        same("a button that there is not", x.see(1, 4, 0), 3);
        same("a figure of none", x.see(2, 1, 0), 4);
        same("things that there are not", x.see(0, 0, 4), 5);
        same("one", x.may(0), 1);
        same("off", x.see(3, 122, 1), 6);
        same("still", x.may(1), 1);
        same("may(-1)", x.may(-1), -2);
        same("may(3)", x.may(3), -2);
        same("press", x.press(0), 11);
        same("of what is now", x.may(1), 1);
        x.unsee();
        same("see", x.see(0, 0, 1), 1);
        same("see", x.see(0, 0, 2), 2);
        same("none", x.may(0), 0);
        same("none", x.may(1), -9);
        same("none", x.may(2), -9);
        same("OUTSIDE ahead of NONE", x.may(3), -2);
        tell(x, "RT20T20T20T20B300");
        same("room", x.room(), 41);
        x.unsee();
        same("see", x.see(0, 0, 15), 1);
        same("bits", x.may(2), 15);
        same("least", x.may(1), 1111);
        same("which", x.tells(false), 0);
        same("how many", x.tells(true), 1);
    }

    private static void tells() {
        promise(23);
        FiveRemotes x = made("RT30T30B010B000B000");
        same("of like ones the least", x.tells(false), 1);
        same("four alike", x.tells(true), 4);
        same("see", x.see(0, 0, 1), 1);
        same("which", x.tells(false), 1);
        same("one alike", x.tells(true), 1);
        same("see", x.see(0, 0, 2), 2);
        same("none that may be", x.tells(false), -9);
        same("none that may be", x.tells(true), -9);
        same("no buttons", made("RT20").tells(false), -9);
        same("no buttons", made("RT20").tells(true), -9);
        same("the first", made("RT20T20B100B010").tells(false), 0);
        same("the first", made("RT20T20B100B010").tells(true), 1);
    }

    private static void share() {
        promise(24);
        FiveRemotes x = made("RT20T20B000B100B110");
        // messes from which 0 is reached: by none 1, by one button 2, by 0 and another 4, by 1 and 2 only 2, by all 4
        same("upper", x.share(0, 0, true), 5);
        same("lower", x.share(0, 0, false), 3);
        same("upper", x.share(1, 0, true), 2);
        same("lower", x.share(1, 0, false), 3);
        same("upper", x.share(2, 0, true), 2);
        same("lower", x.share(2, 0, false), 3);
        same("nothing", x.share(2, 1, true), 0);
        same("nothing", x.share(2, 1, false), 1);
        same("whole", made("RT40B000").share(0, 2, true), 3);
        same("whole", made("RT40B000").share(0, 2, false), 1);
        same("UNKNOWN", x.share(3, 0, true), -1);
        same("UNKNOWN", x.share(-1, 0, false), -1);
        same("UNKNOWN ahead of OUTSIDE", x.share(3, 2, true), -1);
        same("OUTSIDE", x.share(0, 2, true), -2);
        same("OUTSIDE", x.share(0, -1, false), -2);
    }

    private static void rests() {
        promise(25);
        FiveRemotes x = made("RT20T20B000B100");
        same("all is well", x.rests(0, 0, 1, 0, 0), 1);
        same("none presses", x.rests(0, 0, 1, 0, 1), 0);
        // a press costs as much as it wins: pressing and not pressing are alike
        same("as well as not", x.rests(0, 1, 1, 1, 0), 4);
        same("the first", x.rests(0, 1, 1, 1, 1), 0);
        FiveRemotes strife = made("RT40B012B010");
        same("they strive", strife.rests(0, 2, 0, 0, 0), 0);
        same("they strive", strife.rests(0, 2, 0, 0, 1), -9);
        FiveRemotes last = made("RT30B012");
        same("one of both", last.rests(0, 2, 0, 2, 0), 2);
        same("both want what the last button sets", made("RT20T40B000B113").rests(1, 3, 1, 3, 1), 2);
        same("none of these", made("RT20T40B000B113").rests(1, 3, 1, 3, 0), 2);
        same("the second one", last.rests(0, 2, 0, 2, 1), 1);
        same("UNKNOWN", x.rests(2, 0, 0, 0, 0), -1);
        same("UNKNOWN", x.rests(0, 0, -1, 0, 0), -1);
        same("UNKNOWN ahead of OUTSIDE", x.rests(0, 2, 2, 0, 0), -1);
        same("OUTSIDE", x.rests(0, 2, 0, 0, 0), -2);
        same("OUTSIDE", x.rests(0, 0, 0, 2, 0), -2);
        same("OUTSIDE", x.rests(0, -1, 0, 0, 0), -2);
        same("OUTSIDE", x.rests(0, 0, 0, -1, 0), -2);
        same("OUTSIDE", x.rests(0, 0, 0, 0, 2), -2);
        same("OUTSIDE", x.rests(0, 0, 0, 0, -1), -2);
        same("no buttons", made("RT20").rests(0, 1, 0, 0, 0), 1);
        same("no buttons", made("RT20").rests(0, 1, 0, 0, 1), 0);
        counts(x, 15, 2, 2, 0, 0, 0, 0, 0, 0);
    }

    private static void weak() {
        promise(26);
        FiveRemotes x = made("RT30B000");
        same("upper", x.weak(0, 2, 1, 3, true), 21);
        same("lower", x.weak(0, 2, 1, 3, false), 50);
        same("upper", x.weak(0, 3, 0, 5, true), 1);
        same("lower", x.weak(0, 3, 0, 5, false), 4);
        same("once", x.weak(0, 1, 1, 4, true), 3);
        same("once", x.weak(0, 1, 1, 4, false), 5);
        same("never missed", x.weak(0, 4, 1, 0, true), 1);
        same("never missed", x.weak(0, 4, 1, 0, false), 1);
        same("never", x.weak(0, 4, 0, 0, true), 0);
        same("never", x.weak(0, 4, 0, 0, false), 1);
        same("always missed", x.weak(0, 6, 0, 10, true), 1);
        same("always missed", x.weak(0, 6, 0, 10, false), 1);
        same("six", x.weak(0, 6, 1, 9, true), 6 * 59049 + 15 * 81);
        same("six", x.weak(0, 6, 1, 9, false), 1000000);
        same("UNKNOWN", x.weak(1, 1, 0, 0, true), -1);
        same("UNKNOWN ahead of OUTSIDE", x.weak(-1, 0, 3, 11, true), -1);
        same("OUTSIDE n", x.weak(0, 0, 0, 0, true), -2);
        same("OUTSIDE n", x.weak(0, 7, 0, 0, false), -2);
        same("OUTSIDE mess", x.weak(0, 1, 3, 0, true), -2);
        same("OUTSIDE mess", x.weak(0, 1, -1, 0, true), -2);
        same("OUTSIDE x", x.weak(0, 1, 0, -1, true), -2);
        same("OUTSIDE x", x.weak(0, 1, 0, 11, false), -2);
        counts(x, 8, 1, 1, 0, 0, 0, 0, 0, 0);
    }

    private static void seed() {
        promise(27);
        FiveRemotes x = new FiveRemotes();
        same("at first", x.seed(Long.MIN_VALUE), 0);
        same("what it was", x.seed(-1), Long.MIN_VALUE);
        same("what it was", x.seed(Long.MAX_VALUE), -1);
        same("what it was", x.seed(0), Long.MAX_VALUE);
    }

    private static void evenings() {
        promise(28);
        FiveRemotes x = made("RT20T20B000B120B100B000B000B000");
        same("evenings(0)", x.evenings(0), -2);
        same("evenings(31)", x.evenings(31), -2);
        same("evenings(-1)", x.evenings(-1), -2);
        same("the seed stays", x.seed(0), 0);
        // the buttons are 2, 1, none, 2, none, 0, 4, ..
        same("one", x.evenings(1), 1);
        same("two more: 1 and none, from the mess that is", x.evenings(2), 1 + 1);
        same("three more: 2, none and 0, from the mess that is", x.evenings(3), 1 + 1 + 2);
        same("the seed", x.seed(0) == 0 ? 1 : 0, 0);
        same("thirty", x.evenings(30), 27);
        same("the seed", x.seed(0), -7345197285147560642L);
        same("the seed is set", x.evenings(6), 5);
        counts(x, 31, 2, 6, 0, 0, 0, 0, 0, 0);
        same("lit, without buttons", made("RT21T43").evenings(3), 6);
    }

    private static void keep() {
        promise(29);
        FiveRemotes x = made(ROOM);
        same("keep(2)", x.keep(2), -1);
        same("keep(-1)", x.keep(-1), -1);
        same("keep(0)", x.keep(0), 0);
        same("press", x.press(0), 112);
        same("keep(1)", x.keep(1), 1);
        same("acts stay", x.count(7), 1);
        same("press", x.press(0), 12);
        same("again(0)", x.again(0), 0);
        same("again(1)", x.again(1), 1);
        same("what is", x.count(3), 112);
        same("kept anew", x.keep(0), 1);
        same("again(0)", x.again(0), 1);
    }

    private static void again() {
        promise(30);
        FiveRemotes x = made(ROOM);
        same("again(0)", x.again(0), -3);
        same("again(2)", x.again(2), -1);
        same("again(-1)", x.again(-1), -1);
        same("press", x.press(0), 112);
        same("miss", x.miss(1), 122);
        same("keep(1)", x.keep(1), 2);
        same("press", x.press(0), 12);
        same("find", x.find(), 1);
        same("none were kept", x.again(0), -3);
        counts(x, 26, 3, 4, 12, 12, 6, 3, 4, 0);
        same("again(1)", x.again(1), 2);
        counts(x, 26, 3, 4, 112, 122, 7, 2, 0, 0);
        same("undo", x.undo(), -3);
        same("step", x.step(0), 0);
        same("again(1)", x.again(1), 2);
        counts(x, 26, 3, 4, 112, 122, 7, 2, 0, 0);
    }

    private static void count() {
        promise(31);
        FiveRemotes x = made(ROOM);
        counts(x, 26, 3, 4, 12, 12, 6, 0, 0, 0);
        same("press", x.press(0), 112);
        same("miss", x.miss(1), 122);
        same("step", x.step(1), 2);
        same("see", x.see(1, 1, 1), 1);
        same("write", x.write('x'), 27);
        counts(x, 27, 3, 4, 122, 122, 7, 2, 3, 1);
        same("count(-1)", x.count(-1), -2);
        same("count(9)", x.count(9), -2);
    }
}
