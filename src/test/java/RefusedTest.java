import java.util.ArrayList;
import java.util.List;

/** What is refused, and what is only asked, changes nothing: held by twins, of which one alone is called so. */
public final class RefusedTest extends Checks {
    private static final int FAR = Integer.MIN_VALUE, TOO_FAR = Integer.MAX_VALUE;

    private RefusedTest() { }

    /** Ways in which an object may stand. */
    private enum Standing { NOTHING, MIDST, FULL_UP, AT_REST }

    /** A call on an object that is handed to it. */
    private interface Asked {
        long of(FiveRemotes x);
    }

    public static void main(String[] args) {
        twinsAreAlike();
        refusedText();
        refusedThingsAndButtons();
        refusedActs();
        refusedPresses();
        refusedMesses();
        refusedSeen();
        refusedShares();
        refusedRests();
        refusedWeak();
        refusedEvenings();
        refusedSlots();
        refusedCounts();
        onlyAsked();
        eveningsButTheSeed();
        end("refused and only asked");
    }

    // ---- twins

    private static FiveRemotes standing(Standing how) {
        switch (how) {
            case NOTHING: return new FiveRemotes();
            case MIDST: return midst();
            case FULL_UP: return fullUp();
            default: return atRest();
        }
    }

    /** Three THINGS, four BUTTONS; what is, is BELIEVED otherwise; SLOT 0 is kept, not SLOT 1; THE TEXT is at fault. */
    private static FiveRemotes midst() {
        FiveRemotes x = made("RT20T31T42B000B112B120B230");
        x.seed(991);
        x.press(0);
        x.keep(0);
        x.miss(1);
        x.step(2);
        x.see(1, 1, 3);
        x.see(3, 777, 15);
        x.write('T');
        return x;
    }

    /** THE TEXT, THE ROW of ACTS and what is SEEN are full; four THINGS, six BUTTONS; both SLOTS are kept. */
    private static FiveRemotes fullUp() {
        FiveRemotes x = made(GREATEST);
        x.seed(Long.MIN_VALUE);
        while (x.count(0) < 44) x.write('B');
        for (int act = 0; act < 5; act++) {
            x.press(act);
            x.miss(act + 1);
            x.step(act % 4);
            x.find();
        }
        x.keep(1);
        x.step(0);
        x.keep(0);
        for (int many = 0; many < 6; many++) x.see(1, many, 15 - many);
        return x;
    }

    /** What is, is BELIEVED; no ACTS; THE TEXT is empty. */
    private static FiveRemotes atRest() {
        FiveRemotes x = made("RT20T31T42B000B112B120B230");
        x.press(2);
        x.keep(1);
        x.again(1);
        x.wipe();
        return x;
    }

    /** Answers by which two objects are told apart; the object is used up by it. */
    private static List<Long> everything(FiveRemotes x) {
        List<Long> told = new ArrayList<>();
        askCounts(x, told);
        told.add((long) x.fault());
        for (int what = 0; what < 3; what++) {
            for (int i = 0; i < 6; i++) {
                told.add((long) x.thing(i, what));
                told.add((long) x.button(i, what));
            }
            told.add((long) x.may(what));
        }
        for (int i = 1; i <= 6; i++) told.add((long) x.after(1, i));
        told.add((long) x.all());
        told.add((long) x.tells(false));
        told.add((long) x.tells(true));
        told.add((long) x.worst(0, 1));
        told.add((long) x.sure(0, true));
        long seed = x.seed(5);
        told.add(seed);
        told.add((long) x.evenings(30));
        for (int act = 0; act <= 14; act++) {
            told.add((long) x.undo());
            askCounts(x, told);
        }
        for (int slot = 0; slot < 2; slot++) {
            told.add((long) x.again(slot));
            askCounts(x, told);
        }
        told.add((long) x.write('T'));
        told.add((long) x.fault());
        told.add((long) x.unsee());
        told.add((long) x.may(1));
        told.add((long) x.wipe());
        return told;
    }

    private static void askCounts(FiveRemotes x, List<Long> told) {
        for (int what = 3; what < 9; what++) told.add((long) x.count(what));
        told.add((long) x.count(0));
    }

    private static void changesNothing(Standing how, String call, FiveRemotes asked) {
        same(how + ": " + call + " changes nothing", everything(asked).equals(everything(standing(how))) ? 0 : 1, 0);
    }

    private static void refused(Standing how, String call, int due, Asked asked) {
        FiveRemotes x = standing(how);
        same(how + ": " + call, asked.of(x), due);
        same(how + ": " + call + " again", asked.of(x), due);
        changesNothing(how, call, x);
    }

    /** Refused however the object stands. */
    private static void refusedByAll(String call, int due, Asked asked) {
        for (Standing how : Standing.values()) refused(how, call, due, asked);
    }

    /** Refused by those that have a ROOM; UNKNOWN where nothing is told. */
    private static void refusedByRooms(String call, int due, Asked asked) {
        for (Standing how : Standing.values()) refused(how, call, how == Standing.NOTHING ? UNKNOWN : due, asked);
    }

    private static void twinsAreAlike() {
        sentence("twins that were called alike answer alike, and others don't");
        for (Standing how : Standing.values()) {
            changesNothing(how, "nothing", standing(how));
            for (Standing other : Standing.values()) {
                boolean alike = everything(standing(how)).equals(everything(standing(other)));
                same(how + " and " + other, alike ? 1 : 0, how == other ? 1 : 0);
            }
        }
    }

    // ---- refused

    private static void refusedText() {
        sentence("What is refused changes nothing: write, room");
        for (int letter : new int[] {-1, 256, FAR, TOO_FAR}) refusedByAll("write(" + letter + ")", OUTSIDE, x -> x.write(letter));
        refused(Standing.FULL_UP, "write(0)", FULL, x -> x.write(0));
        refused(Standing.FULL_UP, "write(255)", FULL, x -> x.write(255));
        refusedByAll("room()", STATE, FiveRemotes::room);
    }

    private static void refusedThingsAndButtons() {
        sentence("What is refused changes nothing: thing, button");
        for (int none : new int[] {-1, 6, FAR, TOO_FAR}) {
            refusedByAll("thing(" + none + ", 0)", UNKNOWN, x -> x.thing(none, 0));
            refusedByAll("button(" + none + ", 0)", UNKNOWN, x -> x.button(none, 0));
        }
        for (int what : new int[] {-1, 3, FAR, TOO_FAR}) {
            refusedByRooms("thing(0, " + what + ")", OUTSIDE, x -> x.thing(0, what));
            refusedByRooms("button(0, " + what + ")", OUTSIDE, x -> x.button(0, what));
        }
    }

    private static void refusedActs() {
        sentence("What is refused changes nothing: press, miss, step, find, undo");
        for (int none : new int[] {-1, 6, FAR, TOO_FAR}) {
            refusedByAll("press(" + none + ")", UNKNOWN, x -> x.press(none));
            refusedByAll("miss(" + none + ")", UNKNOWN, x -> x.miss(none));
            refusedByAll("step(" + none + ")", UNKNOWN, x -> x.step(none));
        }
        for (Standing how : new Standing[] {Standing.MIDST, Standing.AT_REST}) {
            refused(how, "press(4)", UNKNOWN, x -> x.press(4));
            refused(how, "miss(4)", UNKNOWN, x -> x.miss(4));
            refused(how, "step(3)", UNKNOWN, x -> x.step(3));
        }
        for (Standing how : new Standing[] {Standing.NOTHING, Standing.AT_REST}) {
            refused(how, "find()", STATE, FiveRemotes::find);
            refused(how, "undo()", STATE, FiveRemotes::undo);
        }
    }

    private static void refusedPresses() {
        sentence("What is refused changes nothing: after, judge");
        int[][] outside = {{0, 0}, {-1, 0}, {7, 0}, {FAR, 1}, {TOO_FAR, 1}, {1, 10}, {1, -1}, {6, 1000000}, {6, FAR}, {6, TOO_FAR}};
        for (int[] row : outside) {
            refusedByAll("after(" + row[0] + ", " + row[1] + ")", OUTSIDE, x -> x.after(row[0], row[1]));
            refusedByAll("judge(" + row[0] + ", " + row[1] + ")", OUTSIDE, x -> x.judge(row[0], row[1]));
        }
        int[][] none = {{1, 0}, {1, 7}, {2, 1}, {6, 111110}, {6, 999999}};
        for (int[] row : none) refusedByAll("after(" + row[0] + ", " + row[1] + ")", STATE, x -> x.after(row[0], row[1]));
        refused(Standing.MIDST, "after(3, 115)", STATE, x -> x.after(3, 115));
    }

    private static void refusedMesses() {
        sentence("What is refused changes nothing: fewest, worst, sure, needed");
        for (int mess : new int[] {-1, -10, 5, 40, 10000, FAR, TOO_FAR}) {
            for (boolean row : new boolean[] {false, true}) {
                refusedByAll("fewest(" + mess + ", " + row + ")", OUTSIDE, x -> x.fewest(mess, row));
                refusedByAll("sure(" + mess + ", " + row + ")", OUTSIDE, x -> x.sure(mess, row));
            }
            refusedByAll("worst(" + mess + ", 0)", OUTSIDE, x -> x.worst(mess, 0));
            refusedByAll("worst(" + mess + ", 1)", OUTSIDE, x -> x.worst(mess, 1));
            refusedByAll("needed(" + mess + ")", OUTSIDE, x -> x.needed(mess));
        }
        for (int what : new int[] {-1, 2, FAR, TOO_FAR}) refusedByAll("worst(0, " + what + ")", OUTSIDE, x -> x.worst(0, what));
    }

    private static void refusedSeen() {
        sentence("What is refused changes nothing: see, may");
        int[][] outside = {{-1, 0, 0}, {4, 0, 0}, {FAR, 0, 0}, {TOO_FAR, 0, 0}, {0, 1, 0}, {1, 10, 0}, {3, 1000, 0}, {3, -1, 0},
            {3, FAR, 0}, {3, TOO_FAR, 0}, {0, 0, -1}, {0, 0, 16}, {0, 0, FAR}, {0, 0, TOO_FAR}};
        for (int[] seen : outside) {
            String call = "see(" + seen[0] + ", " + seen[1] + ", " + seen[2] + ")";
            refusedByAll(call, OUTSIDE, x -> x.see(seen[0], seen[1], seen[2]));
        }
        refused(Standing.FULL_UP, "see(0, 0, 0)", FULL, x -> x.see(0, 0, 0));
        refused(Standing.FULL_UP, "see(3, 999, 15)", FULL, x -> x.see(3, 999, 15));
        for (int what : new int[] {-1, 3, FAR, TOO_FAR}) refusedByAll("may(" + what + ")", OUTSIDE, x -> x.may(what));
    }

    private static void refusedShares() {
        sentence("What is refused changes nothing, of FRACTIONS above and below likewise: share");
        for (boolean upper : new boolean[] {false, true}) {
            for (int none : new int[] {-1, 6, FAR, TOO_FAR}) {
                refusedByAll("share(" + none + ", 0, " + upper + ")", UNKNOWN, x -> x.share(none, 0, upper));
                refusedByAll("share(" + none + ", -1, " + upper + ")", UNKNOWN, x -> x.share(none, -1, upper));
            }
            for (int mess : new int[] {-1, 5, 10000, FAR, TOO_FAR}) {
                refusedByRooms("share(0, " + mess + ", " + upper + ")", OUTSIDE, x -> x.share(0, mess, upper));
            }
        }
    }

    private static void refusedRests() {
        sentence("What is refused changes nothing: rests");
        for (int none : new int[] {-1, 4, FAR, TOO_FAR}) {
            refusedByAll("rests, t = " + none, UNKNOWN, x -> x.rests(none, 0, 0, 0, 0));
            refusedByAll("rests, u = " + none, UNKNOWN, x -> x.rests(0, 0, none, 0, 1));
            refusedByAll("rests, u and all = " + none, UNKNOWN, x -> x.rests(0, -1, none, -1, -1));
        }
        for (int state : new int[] {-1, 4, FAR, TOO_FAR}) {
            refusedByRooms("rests, v = " + state, OUTSIDE, x -> x.rests(2, state, 2, 0, 0));
            refusedByRooms("rests, w = " + state, OUTSIDE, x -> x.rests(2, 0, 2, state, 1));
            refusedByRooms("rests, what = " + state, OUTSIDE, x -> x.rests(2, 0, 2, 0, state));
        }
    }

    private static void refusedWeak() {
        sentence("What is refused changes nothing, of FRACTIONS above and below likewise: weak");
        for (boolean upper : new boolean[] {false, true}) {
            for (int none : new int[] {-1, 6, FAR, TOO_FAR}) {
                refusedByAll("weak, button = " + none, UNKNOWN, x -> x.weak(none, 1, 0, 5, upper));
                refusedByAll("weak, button and all = " + none, UNKNOWN, x -> x.weak(none, 0, -1, 11, upper));
            }
            for (int beyond : new int[] {-1, 5, 11, FAR, TOO_FAR}) {
                if (beyond != 5) refusedByRooms("weak, n = " + beyond, OUTSIDE, x -> x.weak(0, beyond, 0, 5, upper));
                if (beyond != 11) refusedByRooms("weak, mess = " + beyond, OUTSIDE, x -> x.weak(0, 1, beyond, 5, upper));
                if (beyond != 5) refusedByRooms("weak, x = " + beyond, OUTSIDE, x -> x.weak(0, 1, 0, beyond, upper));
            }
            refusedByRooms("weak, n = 0", OUTSIDE, x -> x.weak(0, 0, 0, 5, upper));
            refusedByRooms("weak, n = 7", OUTSIDE, x -> x.weak(0, 7, 0, 5, upper));
        }
    }

    private static void refusedEvenings() {
        sentence("What is refused changes nothing, nor THE SEED: evenings");
        for (int k : new int[] {0, -1, 31, FAR, TOO_FAR}) refusedByAll("evenings(" + k + ")", OUTSIDE, x -> x.evenings(k));
    }

    private static void refusedSlots() {
        sentence("What is refused changes nothing: keep, again");
        for (int none : new int[] {-1, 2, FAR, TOO_FAR}) {
            refusedByAll("keep(" + none + ")", UNKNOWN, x -> x.keep(none));
            refusedByAll("again(" + none + ")", UNKNOWN, x -> x.again(none));
        }
        refused(Standing.NOTHING, "again(0)", STATE, x -> x.again(0));
        refused(Standing.NOTHING, "again(1)", STATE, x -> x.again(1));
        refused(Standing.MIDST, "again(1)", STATE, x -> x.again(1));
        refused(Standing.AT_REST, "again(0)", STATE, x -> x.again(0));
    }

    private static void refusedCounts() {
        sentence("What is refused changes nothing: count");
        for (int what : new int[] {-1, 9, FAR, TOO_FAR}) refusedByAll("count(" + what + ")", OUTSIDE, x -> x.count(what));
    }

    // ---- only asked

    private static void asked(String call, Asked asked) {
        for (Standing how : Standing.values()) {
            FiveRemotes x = standing(how);
            long first = asked.of(x);
            same(how + ": " + call + " again", asked.of(x), first);
            changesNothing(how, call, x);
        }
    }

    private static void onlyAsked() {
        sentence("In what follows nothing is changed");
        asked("fault", FiveRemotes::fault);
        asked("thing", x -> x.thing(0, 1));
        asked("button", x -> x.button(0, 1));
        asked("after", x -> x.after(3, 123));
        asked("all", FiveRemotes::all);
        asked("fewest", x -> x.fewest(0, false));
        asked("fewest, the ROW", x -> x.fewest(100, true));
        asked("worst", x -> x.worst(0, 0));
        asked("can", x -> x.worst(1, 1));
        asked("sure", x -> x.sure(0, false));
        asked("needed", x -> x.needed(11));
        asked("judge", x -> x.judge(4, 1234));
        for (int what = 0; what < 3; what++) {
            int one = what;
            asked("may", x -> x.may(one));
        }
        asked("tells", x -> x.tells(false));
        asked("tells", x -> x.tells(true));
        asked("share", x -> x.share(1, 0, true));
        asked("rests", x -> x.rests(0, 1, 2, 3, 1));
        asked("weak", x -> x.weak(3, 6, 0, 5, false));
        for (int what = 0; what < 9; what++) {
            int one = what;
            asked("count", x -> x.count(one));
        }
    }

    private static void eveningsButTheSeed() {
        sentence("EVENINGS: Nothing changes but THE SEED; seed alone sets it");
        for (Standing how : Standing.values()) {
            FiveRemotes x = standing(how);
            long was = x.seed(3);
            x.evenings(30);
            same(how + ": THE SEED has gone on", x.seed(was) == 3 ? 1 : 0, 0);
            changesNothing(how, "evenings, and THE SEED set back", x);
        }
    }
}
