/** What the tests by hand share: an answer is held against the one that is due, under the sentence that it tests. */
abstract class Checks {
    static final int UNKNOWN = -1, OUTSIDE = -2, STATE = -3, FULL = -4, NONE = -9;
    /** Four THINGS and six BUTTONS: the longest ROOM, of 37 letters. */
    static final String GREATEST = "RT20T31T42T43B000B112B120B230B313B020";

    private static String sentence = "";
    private static int sentences = 0;
    private static int answers = 0;
    private static int ofSentence = 0;
    private static int wrong = 0;

    /** A call by one of its arguments, the others standing. */
    interface Call {
        long of(int value);
    }

    /** A call about a MESS, on an object that is handed to it. */
    interface OfMess {
        long of(FiveRemotes x, int mess);
    }

    /** From here on answers belong to this sentence of the document; a sentence without an answer is a fault of the test. */
    static void sentence(String told) {
        closeSentence();
        sentence = told;
        sentences++;
        ofSentence = 0;
    }

    private static void closeSentence() {
        if (sentences > 0 && ofSentence == 0) wrong("nothing was asked");
    }

    static void wrong(String what) {
        wrong++;
        System.out.println("\"" + sentence + "\": " + what);
    }

    static void same(String call, long got, long due) {
        answers++;
        ofSentence++;
        if (got != due) wrong(call + " answered " + got + ", due is " + due);
    }

    static void taken(String call, long got) {
        answers++;
        ofSentence++;
        if (got < 0 && got != NONE) wrong(call + " was refused by " + got);
    }

    /** All from the least to the greatest value are taken, the first ones beyond and the farthest ones are not. */
    static void bounds(String call, int least, int greatest, int refusal, Call asked) {
        for (int value = least; value <= greatest; value++) taken(call + " with " + value, asked.of(value));
        for (int beyond : new int[] {least - 1, greatest + 1, Integer.MIN_VALUE, Integer.MAX_VALUE}) {
            same(call + " with " + beyond, asked.of(beyond), refusal);
        }
    }

    /** Figures of STATES that there are, of as many THINGS as states are told, are taken; all other numbers are OUTSIDE. */
    static void messes(String call, String text, int[] states, OfMess asked) {
        FiveRemotes x = made(text);
        int calls = 0;
        for (int mess = -1200; mess <= 12000; mess++) {
            if (calls++ % 400 == 0) x = made(text);
            if (areStates(mess, states)) taken(call + " of " + mess + " in " + text, asked.of(x, mess));
            else same(call + " of " + mess + " in " + text, asked.of(x, mess), OUTSIDE);
        }
        for (int mess : new int[] {Integer.MIN_VALUE, Integer.MAX_VALUE, 100000000, -1000000000}) {
            same(call + " of " + mess + " in " + text, asked.of(x, mess), OUTSIDE);
        }
    }

    private static boolean areStates(int mess, int[] states) {
        int left = mess;
        for (int thing = states.length - 1; thing >= 0; thing--) {
            if (left < 0 || left % 10 >= states[thing]) return false;
            left /= 10;
        }
        return left == 0;
    }

    static void write(FiveRemotes x, String text) {
        for (int i = 0; i < text.length(); i++) {
            int due = x.count(0) + 1;
            same("write", x.write(text.charAt(i)), due);
        }
    }

    static void tell(FiveRemotes x, String text) {
        x.wipe();
        write(x, text);
    }

    static FiveRemotes made(String text) {
        FiveRemotes x = new FiveRemotes();
        makeAnew(x, text);
        return x;
    }

    static void makeAnew(FiveRemotes x, String text) {
        tell(x, text);
        taken("room of " + text, x.room());
    }

    /** count by count, from 0 (letters) on. */
    static void counts(FiveRemotes x, long... due) {
        for (int what = 0; what < due.length; what++) same("count(" + what + ")", x.count(what), due[what]);
    }

    static void end(String name) {
        closeSentence();
        System.out.println(name + ": " + sentences + " sentences, " + answers + " answers, " + wrong + " wrong");
        if (wrong != 0) System.exit(1);
    }
}
