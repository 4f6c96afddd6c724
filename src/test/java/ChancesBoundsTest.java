import java.math.BigInteger;

/** Boundary sentences about shares, rests and chances: promises 24 to 28, and part 3 of the terms. */
public final class ChancesBoundsTest extends Checks {
    /** From nothing lit, the first four BUTTONS light as many THINGS as this tells; the others are not there. */
    private static final String LIGHTING = "RT20T20T20T20B020B120B220B320";
    private static final int[] LIT = {4, 3, 2, 1, 0, 0, 0};
    private static final long[] SEEDS = {0, 1, -1, 2, -2, Long.MAX_VALUE, Long.MIN_VALUE, Integer.MAX_VALUE, Integer.MIN_VALUE,
        1L << 32, 1L << 33, -(1L << 33), 1L << 62, 123456789123456789L, -123456789123456789L};

    private ChancesBoundsTest() { }

    public static void main(String[] args) {
        shareUnknown();
        shareOutside();
        shareUnknownAheadOfOutside();
        shareOfNothing();
        shareLeastTerms();
        shareOfAll();
        restsUnknown();
        restsOutside();
        restsUnknownAheadOfOutside();
        restsOfNone();
        restsWithoutButtons();
        restsFirst();
        restsOnceForAPress();
        weakUnknown();
        weakOutside();
        weakUnknownAheadOfOutside();
        weakNeverAndAlways();
        weakLeastTerms();
        weakOnceToSixTimes();
        seeds();
        eveningsOutside();
        eveningsOnce();
        eveningsWrap();
        eveningsWithoutButton();
        eveningsMostAndLeast();
        eveningsChangeTheSeedAlone();
        fromWhatIs();
        fromEveryMess();
        end("bounds of shares, rests and chances");
    }

    private static void fraction(String call, long above, long below, long dueAbove, long dueBelow) {
        same(call + ", above", above, dueAbove);
        same(call + ", below", below, dueBelow);
    }

    // ---- share

    private static void share(String text, int button, int mess, int above, int below) {
        FiveRemotes x = made(text);
        fraction("share of " + button + " for " + mess + " in " + text,
                x.share(button, mess, true), x.share(button, mess, false), above, below);
    }

    private static void shareUnknown() {
        sentence("share: UNKNOWN");
        String text = "RT20T40";
        for (int buttons = 0; buttons <= 6; buttons++) {
            FiveRemotes x = made(text);
            bounds("share of " + buttons, 0, buttons - 1, UNKNOWN, button -> x.share(button, 0, true));
            bounds("share of " + buttons + ", below", 0, buttons - 1, UNKNOWN, button -> x.share(button, 0, false));
            text = text + "B100";
        }
    }

    private static void shareOutside() {
        sentence("share: OUTSIDE: mess");
        messes("share", "RT20B000", new int[] {2}, (x, mess) -> x.share(0, mess, true));
        messes("share, below", "RT20B000", new int[] {2}, (x, mess) -> x.share(0, mess, false));
        messes("share", "RT20T31T42B000B100", new int[] {2, 3, 4}, (x, mess) -> x.share(1, mess, true));
        messes("share", "RT40T40T40T40B000", new int[] {4, 4, 4, 4}, (x, mess) -> x.share(0, mess, false));
    }

    private static void shareUnknownAheadOfOutside() {
        sentence("share: UNKNOWN; OUTSIDE");
        FiveRemotes x = made("RT20B000");
        same("both", x.share(1, 2, true), UNKNOWN);
        same("both", x.share(-1, -1, false), UNKNOWN);
        same("mess alone", x.share(0, 2, true), OUTSIDE);
        same("mess alone", x.share(0, 2, false), OUTSIDE);
    }

    private static void shareOfNothing() {
        sentence("FRACTIONS: below (1 and more): nothing is 0 of 1");
        share("RT20B011", 0, 0, 0, 1);
        share("RT20T20B010B110", 0, 11, 0, 1);
        share("RT20B011B011B011B011B011B000", 0, 0, 0, 1);
    }

    private static void shareLeastTerms() {
        sentence("FRACTIONS: in least terms");
        share("RT40B000", 0, 0, 3, 1);
        share("RT20B000B000", 1, 0, 1, 2);
        share("RT40B000B000", 1, 0, 3, 2);
        share("RT40B000B000B000", 1, 0, 1, 1);
        share("RT20B000B000B000B000B000B000", 5, 0, 1, 6);
        share("RT40B000B000B000B000B000B000", 0, 0, 1, 2);
        share("RT20T20B000B130", 0, 11, 3, 2);
        share("RT20T20B000B130", 1, 11, 3, 2);
    }

    private static void shareOfAll() {
        sentence("SHARE: if BUTTONS come one by one, in each order as likely: all shares are all that can reach m less one");
        share("RT40T40T40T40B000B100B200B300", 0, 0, 255, 4);
        share("RT40T40T40T40B000B100B200B300", 3, 3333, 255, 4);
        for (int mess : new int[] {0, 11, 1011, 1111}) {
            FiveRemotes x = made("RT20T20T20T20B011B010B111B110B230B331");
            long sum = 0;
            for (int button = 0; button < 6; button++) sum += 720 * x.share(button, mess, true) / x.share(button, mess, false);
            same("all shares for " + mess, sum, 720 * (x.worst(mess, 1) - 1));
        }
    }

    // ---- rests

    private static void restsUnknown() {
        sentence("rests: UNKNOWN: t, u");
        String text = "R";
        for (int things = 0; things <= 4; things++) {
            FiveRemotes x = made(text);
            if (things > 0) {
                bounds("rests, t of " + things, 0, things - 1, UNKNOWN, t -> x.rests(t, 0, 0, 0, 0));
                bounds("rests, u of " + things, 0, things - 1, UNKNOWN, u -> x.rests(0, 0, u, 0, 0));
            } else {
                same("no THINGS", x.rests(0, 0, 0, 0, 0), UNKNOWN);
            }
            text = text + "T20";
        }
    }

    private static void restsOutside() {
        sentence("rests: OUTSIDE: v, w (STATES of theirs), what");
        FiveRemotes x = made("RT20T30T40B000");
        for (int thing = 0; thing < 3; thing++) {
            int own = thing;
            bounds("rests, v of " + thing, 0, thing + 1, OUTSIDE, v -> x.rests(own, v, 0, 0, 0));
            bounds("rests, w of " + thing, 0, thing + 1, OUTSIDE, w -> x.rests(0, 0, own, w, 0));
            bounds("rests, v of " + thing, 0, thing + 1, OUTSIDE, v -> x.rests(own, v, 2, 3, 1));
            bounds("rests, w of " + thing, 0, thing + 1, OUTSIDE, w -> x.rests(2, 3, own, w, 1));
        }
        bounds("rests, what", 0, 1, OUTSIDE, what -> x.rests(0, 0, 0, 0, what));
    }

    private static void restsUnknownAheadOfOutside() {
        sentence("rests: UNKNOWN; OUTSIDE");
        FiveRemotes x = made("RT20T20");
        same("t and v", x.rests(2, 2, 0, 0, 0), UNKNOWN);
        same("v and u", x.rests(0, 2, 2, 0, 0), UNKNOWN);
        same("u and w", x.rests(0, 0, -1, 2, 0), UNKNOWN);
        same("t and w", x.rests(-1, 0, 0, 2, 0), UNKNOWN);
        same("t and what", x.rests(2, 0, 0, 0, 2), UNKNOWN);
        same("u and what", x.rests(0, 0, 2, 0, -1), UNKNOWN);
        same("all", x.rests(2, 9, 2, 9, 9), UNKNOWN);
    }

    private static void restsOfNone() {
        sentence("RESTS: NONE");
        FiveRemotes x = made("RT40B012B010");
        same("they strive: how many", x.rests(0, 2, 0, 0, 0), 0);
        same("they strive: the first", x.rests(0, 2, 0, 0, 1), NONE);
        same("the other way: how many", x.rests(0, 0, 0, 2, 0), 1);
        same("the other way: the first", x.rests(0, 0, 0, 2, 1), 1);
    }

    private static void restsWithoutButtons() {
        sentence("RESTS: a first one presses a BUTTON, or none (0: none)");
        FiveRemotes x = made("RT20T40");
        same("no BUTTONS: how many", x.rests(0, 1, 1, 3, 0), 1);
        same("no BUTTONS: the first", x.rests(0, 1, 1, 3, 1), 0);
        FiveRemotes y = made("RT20T20B000B100");
        same("both have what they wish: how many", y.rests(0, 0, 1, 0, 0), 1);
        same("both have what they wish: the first", y.rests(0, 0, 1, 0, 1), 0);
    }

    private static void restsFirst() {
        sentence("RESTS: the first (10 times the one and the other; else the BUTTON and 1)");
        FiveRemotes x = made("RT40T20B010B010B010B010B010B012");
        same("the first one alone: how many", x.rests(0, 2, 1, 0, 0), 1);
        same("the first one alone: the last BUTTON", x.rests(0, 2, 1, 0, 1), 60);
        same("the second one alone: how many", x.rests(1, 0, 0, 2, 0), 1);
        same("the second one alone: the last BUTTON", x.rests(1, 0, 0, 2, 1), 6);
        same("one of both: how many", x.rests(0, 2, 0, 2, 0), 2);
        same("one of both: the first", x.rests(0, 2, 0, 2, 1), 6);
        FiveRemotes y = made("RT40T40B010B010B010B010B012B112");
        same("each one its own, or each the other's: how many", y.rests(0, 2, 1, 2, 0), 1);
        same("each one its own: the first", y.rests(0, 2, 1, 2, 1), 56);
        same("the other way", y.rests(1, 2, 0, 2, 1), 65);
        FiveRemotes z = made("RT40T20B012");
        same("the first BUTTON", z.rests(0, 2, 1, 0, 1), 10);
        same("the first BUTTON", z.rests(1, 0, 0, 2, 1), 1);
    }

    private static void restsOnceForAPress() {
        sentence("RESTS: each 1 more for a PRESS: neither loses less by another choice alone");
        FiveRemotes x = made("RT40B011");
        same("as much as it wins: how many", x.rests(0, 1, 0, 0, 0), 2);
        same("as much as it wins: the first", x.rests(0, 1, 0, 0, 1), 0);
        FiveRemotes y = made("RT40B012");
        same("more than it costs: how many", y.rests(0, 2, 0, 2, 0), 2);
        FiveRemotes far = made("RT43T20B010");
        same("how far, not whether: the first", far.rests(0, 1, 1, 0, 1), 0);
        same("how far, not whether: how many", far.rests(0, 1, 1, 0, 0), 2);
        same("three: the first", far.rests(0, 0, 1, 0, 1), 10);
    }

    // ---- weak

    private static void weak(String text, int n, int mess, int x, int above, int below) {
        FiveRemotes room = made(text);
        fraction("weak, " + n + " times by " + x + " to " + mess + " in " + text,
                room.weak(0, n, mess, x, true), room.weak(0, n, mess, x, false), above, below);
    }

    private static void weakUnknown() {
        sentence("weak: UNKNOWN");
        String text = "RT20T40";
        for (int buttons = 0; buttons <= 6; buttons++) {
            FiveRemotes x = made(text);
            bounds("weak of " + buttons, 0, buttons - 1, UNKNOWN, button -> x.weak(button, 1, 0, 5, true));
            bounds("weak of " + buttons + ", below", 0, buttons - 1, UNKNOWN, button -> x.weak(button, 1, 0, 5, false));
            text = text + "B100";
        }
    }

    private static void weakOutside() {
        sentence("weak: OUTSIDE: n, mess, x");
        FiveRemotes x = made("RT20B000");
        bounds("weak, n", 1, 6, OUTSIDE, n -> x.weak(0, n, 0, 5, true));
        bounds("weak, n, below", 1, 6, OUTSIDE, n -> x.weak(0, n, 0, 5, false));
        bounds("weak, x", 0, 10, OUTSIDE, tenths -> x.weak(0, 1, 0, tenths, true));
        bounds("weak, x, below", 0, 10, OUTSIDE, tenths -> x.weak(0, 1, 0, tenths, false));
        messes("weak", "RT20B000", new int[] {2}, (room, mess) -> room.weak(0, 1, mess, 5, true));
        messes("weak, below", "RT20B000", new int[] {2}, (room, mess) -> room.weak(0, 1, mess, 5, false));
        messes("weak", "RT20T31T42B000", new int[] {2, 3, 4}, (room, mess) -> room.weak(0, 6, mess, 3, true));
        messes("weak", "RT40T40T40T40B000", new int[] {4, 4, 4, 4}, (room, mess) -> room.weak(0, 6, mess, 10, false));
    }

    private static void weakUnknownAheadOfOutside() {
        sentence("weak: UNKNOWN; OUTSIDE");
        FiveRemotes x = made("RT20B000");
        same("n", x.weak(1, 0, 0, 0, true), UNKNOWN);
        same("mess", x.weak(1, 1, 2, 0, true), UNKNOWN);
        same("x", x.weak(-1, 1, 0, 11, false), UNKNOWN);
        same("all", x.weak(6, 7, -1, -1, false), UNKNOWN);
    }

    private static void weakNeverAndAlways() {
        sentence("WEAK: each time it is missed by x tenths (0 to 10)");
        for (int n = 1; n <= 6; n++) {
            for (int mess = 0; mess < 4; mess++) {
                weak("RT40B000", n, mess, 0, mess == n % 4 ? 1 : 0, 1);
                weak("RT40B000", n, mess, 10, mess == 0 ? 1 : 0, 1);
            }
        }
        weak("RT40B000", 1, 0, 1, 1, 10);
        weak("RT40B000", 1, 1, 1, 9, 10);
        weak("RT40B000", 1, 0, 9, 9, 10);
        weak("RT40B000", 1, 1, 9, 1, 10);
    }

    private static void weakLeastTerms() {
        sentence("WEAK: a FRACTION, in least terms");
        weak("RT20B000", 1, 1, 5, 1, 2);
        weak("RT20B000", 6, 1, 5, 1, 2);
        weak("RT20B011", 6, 0, 5, 1, 64);
        weak("RT20B011", 6, 1, 5, 63, 64);
        weak("RT20B011", 6, 0, 1, 1, 1000000);
        weak("RT20B011", 6, 1, 1, 999999, 1000000);
        weak("RT20B011", 6, 0, 2, 1, 15625);
        weak("RT20B010", 3, 0, 7, 1, 1);
        weak("RT20B010", 3, 1, 7, 0, 1);
    }

    private static void weakOnceToSixTimes() {
        sentence("WEAK: PRESSED n times (1 to 6), by itself each time");
        int below = 1;
        int missed = 1;
        for (int n = 1; n <= 6; n++) {
            below *= 10;
            missed *= 3;
            weak("RT20B011", n, 0, 3, missed, below);
            weak("RT20B011", n, 1, 3, below - missed, below);
        }
        // in parts of 10,000: 6,561 and 1 for four and none, 36, 486 and 2,916 for one, two and three
        weak("RT40B000", 4, 0, 1, 3281, 5000);
        weak("RT40B000", 4, 1, 1, 9, 2500);
        weak("RT40B000", 4, 2, 1, 243, 5000);
        weak("RT40B000", 4, 3, 1, 729, 2500);
    }

    // ---- evenings

    private static void seeds() {
        sentence("THE SEED, a long; 0 at first. seed: THE SEED is v: what it was");
        FiveRemotes x = new FiveRemotes();
        long was = 0;
        for (long seed : SEEDS) {
            same("seed(" + seed + ")", x.seed(seed), was);
            was = seed;
        }
        same("seed(0)", x.seed(0), was);
    }

    private static void eveningsOutside() {
        sentence("evenings: k times (1 to 30). OUTSIDE: k");
        bounds("evenings", 1, 30, OUTSIDE, k -> made("RT20B000").evenings(k));
        bounds("evenings of nothing", 1, 30, OUTSIDE, k -> new FiveRemotes().evenings(k));
    }

    private static BigInteger next(BigInteger seed) {
        return seed.multiply(new BigInteger("6364136223846793005")).add(new BigInteger("1442695040888963407"))
                .mod(BigInteger.TWO.pow(64));
    }

    private static int figureOf(BigInteger seed) {
        return seed.shiftRight(33).mod(BigInteger.valueOf(7)).intValueExact();
    }

    private static void eveningsOnce() {
        sentence("EVENINGS: its upper 31 bits by 7, what is left, is a BUTTON that is PRESSED");
        FiveRemotes x = made(LIGHTING);
        int[] met = new int[7];
        for (int i = 0; i < 150; i++) {
            long seed = SEEDS[i % SEEDS.length] * (i + 1) + i;
            BigInteger then = next(BigInteger.valueOf(seed));
            x.seed(seed);
            same("evenings(1) from " + seed, x.evenings(1), LIT[figureOf(then)]);
            met[figureOf(then)]++;
        }
        for (int figure = 0; figure < 7; figure++) same("figure " + figure + " was met", met[figure] > 0 ? 1 : 0, 1);
    }

    private static void eveningsWrap() {
        sentence("EVENINGS: x times 6364136223846793005 and 1442695040888963407 (64 bits, wrapping)");
        for (long seed : SEEDS) {
            for (int k : new int[] {1, 2, 29, 30}) {
                FiveRemotes x = made(LIGHTING);
                x.seed(seed);
                x.evenings(k);
                BigInteger then = BigInteger.valueOf(seed);
                for (int i = 0; i < k; i++) then = next(then);
                same("THE SEED behind " + k + " from " + seed, x.seed(0), then.longValue());
            }
        }
    }

    private static void eveningsWithoutButton() {
        sentence("EVENINGS: if there is such a one");
        BigInteger seed = BigInteger.ZERO;
        for (int i = 0; i < 60; i++) {
            FiveRemotes x = made("RT20T21B000");
            x.seed(seed.longValue());
            seed = next(seed);
            same("evenings(1)", x.evenings(1), figureOf(seed) == 0 ? 2 : 1);
            same("THE SEED goes on", x.seed(0), seed.longValue());
        }
    }

    private static void eveningsMostAndLeast() {
        sentence("EVENINGS: how many THINGS are not off then, each time, together");
        for (int k = 1; k <= 30; k++) {
            same("four lit, no BUTTONS", made("RT21T32T43T41").evenings(k), 4 * k);
            same("none lit, no BUTTONS", made("RT20T20").evenings(k), 0);
            same("nothing there", new FiveRemotes().evenings(k), 0);
            int lit = 0;
            int together = 0;
            BigInteger seed = BigInteger.ZERO;
            for (int i = 0; i < k; i++) {
                seed = next(seed);
                int figure = figureOf(seed);
                if (figure < 4) lit ^= 15 >> figure;
                together += Integer.bitCount(lit);
            }
            same("those switched last stay switched, " + k, made(LIGHTING).evenings(k), together);
        }
    }

    private static void eveningsChangeTheSeedAlone() {
        sentence("EVENINGS: (Nothing changes but THE SEED.)");
        FiveRemotes x = made("RT20T20B000B100B000B100B000B100");
        x.miss(0);
        counts(x, 31, 2, 6, 0, 10, 0, 1, 1, 0);
        same("evenings", x.evenings(30) > 0 ? 1 : 0, 1);
        counts(x, 31, 2, 6, 0, 10, 0, 1, 1, 0);
        same("a second time from what is", x.seed(0) == 0 ? 1 : 0, 0);
        long first = x.evenings(30);
        x.seed(0);
        same("a second time from what is", x.evenings(30), first);
    }

    // ---- from where

    private static void fromWhatIs() {
        sentence("RESTS, WEAK, EVENINGS: from what is, not from what is BELIEVED");
        FiveRemotes x = made("RT40T20B000");
        same("step", x.step(0), 1);
        same("step", x.step(0), 2);
        same("step", x.step(1), 1);
        counts(x, 11, 2, 1, 21, 0);
        same("none presses: how many", x.rests(0, 2, 1, 1, 0), 1);
        same("none presses: the first", x.rests(0, 2, 1, 1, 1), 0);
        same("weak", x.weak(0, 1, 31, 0, true), 1);
        same("weak", x.weak(0, 1, 10, 0, true), 0);
        same("weak", x.weak(0, 1, 21, 10, true), 1);
        FiveRemotes y = made("RT20T20T20");
        same("step", y.step(0), 1);
        same("step", y.step(2), 1);
        same("evenings", y.evenings(3), 6);
        FiveRemotes z = made("RT20T20T20B020");
        same("miss", z.miss(0), 111);
        same("evenings, the third BUTTON, that there is not", z.evenings(1), 0);
    }

    private static void fromEveryMess() {
        sentence("SHARE, WORST, SURE: from every MESS, whatever is");
        for (int steps = 0; steps <= 5; steps++) {
            FiveRemotes x = made("RT40T20B000B011B111");
            for (int step = 0; step < steps; step++) x.step(step % 2);
            // 21 is reached from 1 MESS by none, 4 by the first BUTTON, 1 by the second, 2 by the third; 4, 8 and 2 by pairs; 8 by all
            same("share, above", x.share(0, 21, true), 9);
            same("share, below", x.share(0, 21, false), 2);
            same("worst", x.worst(21, 0), 3);
            same("can", x.worst(21, 1), 8);
            same("sure", x.sure(21, true), 213);
        }
    }
}
