import java.util.ArrayList;
import java.util.List;

/**
 * What the tests of edges share. Each test of theirs names the sentence of the document that it tests;
 * an answer that is not due is told with that sentence. No object is used for more than 512 calls.
 */
abstract class Edges {
    static final long NO = -4611686018427387904L;
    static final int BAD = -1, STATE = -2, FULL = -3, NONE = -9, WITNESS = -7, UNSURE = -8;
    static final int LEAST = Integer.MIN_VALUE, MOST = Integer.MAX_VALUE;

    private static final int MOST_TOLD = 40;

    private static String sentence = "";
    private static int sentences = 0;
    private static int answers = 0;
    private static int wrong = 0;

    /** A question or an order to an object. */
    interface Call {
        long on(ControlSigns x);
    }

    /** A way to make an object; it makes the same one each time. */
    interface Maker {
        ControlSigns made();
    }

    // ---- what is due

    static void by(String words) {
        sentence = words;
        sentences++;
    }

    static void due(String call, long want, long got) {
        answers++;
        if (want != got) {
            tell(call + " answered " + got + ", due is " + want);
        }
    }

    static void dueText(String call, String want, String got) {
        answers++;
        if (!want.equals(got)) {
            tell(call + " answered '" + got + "', due is '" + want + "'");
        }
    }

    private static void tell(String what) {
        wrong++;
        if (wrong <= MOST_TOLD) {
            System.out.println("by '" + sentence + "': " + what);
        }
    }

    /** A fraction that is asked for in two calls. */
    static void dueParts(String call, long wantUpper, long wantLower, long upper, long lower) {
        due(call + ", upper", wantUpper, upper);
        due(call + ", lower", wantLower, lower);
    }

    static void finish() {
        System.out.println(sentences + " sentences, " + answers + " answers, " + wrong + " not as due");
        if (wrong != 0) {
            System.exit(1);
        }
    }

    // ---- objects

    static void write(ControlSigns x, String text) {
        for (int k = 0; k < text.length(); k++) {
            x.type(text.charAt(k));
        }
    }

    static ControlSigns told(String text) {
        ControlSigns x = new ControlSigns();
        write(x, text);
        if (x.house() < 0) {
            due("house() of '" + text + "' is no fault", 1, 0);
        }
        return x;
    }

    /** What house() answers to a text, on a new object. */
    static int house(String text) {
        ControlSigns x = new ControlSigns();
        write(x, text);
        return x.house();
    }

    /** What proves() answers to a text, on a new object. */
    static int proves(String told, String paper) {
        ControlSigns x = told(told);
        write(x, paper);
        return x.proves();
    }

    static String paperOf(ControlSigns x) {
        StringBuilder letters = new StringBuilder();
        for (int k = 0; k < 127 && x.paper(k) >= 0; k++) {
            letters.append((char) x.paper(k));
        }
        return letters.toString();
    }

    /** BRACKETS as node/kind, one behind the other. */
    static String bracketsOf(ControlSigns x) {
        StringBuilder all = new StringBuilder();
        int size = x.brackets();
        for (int k = 0; k < size; k++) {
            all.append(k == 0 ? "" : " ").append(x.bracket(k, 0)).append('/').append(x.bracket(k, 1));
        }
        return all.toString();
    }

    /** Something of all kinds: three POLYNOMIALS, two BOXES, 12 changes of which 10 are known, both IMAGES, SEEN, a text. */
    static ControlSigns rich() {
        ControlSigns x = told("p6-5 1;p-7;p2 3;b0 4;b-1 3;");
        x.wishes(2, 1);
        x.coefs(0, 0, 5);
        x.keep(0);
        x.ends(1, -2, 2);
        x.wishes(0, -1);
        x.coefs(1, 0, -50);
        x.keep(1);
        x.coefs(0, 2, 2);
        x.coefs(2, 1, -3);
        x.ends(0, -5, 5);
        x.wishes(2, -1);
        x.coefs(0, 0, 6);
        x.ends(0, 1, 5);
        x.wishes(1, 1);
        x.takes(2, 1);
        x.sees(1, -1);
        x.sees(0, 1);
        write(x, "p4 5;b0 3;");
        return x;
    }

    /** No place is left: 120 letters, 6 SEEN. */
    static ControlSigns full() {
        ControlSigns x = told("p1-6 9;b0 1;");
        for (int k = 0; k < 6; k++) {
            x.sees(k, 1);
        }
        write(x, "p1 2;b0 3;" + " ".repeat(110));
        return x;
    }

    // ---- that nothing changes

    /** One call is refused: it answers as told, and leaves all as it was. */
    static void refused(String call, long want, Maker maker, Call refusal) {
        ControlSigns x = maker.made();
        due(call, want, refusal.on(x));
        same(call, maker, x);
    }

    /** A call that only asks leaves all as it was. */
    static void changesNothing(String call, Maker maker, Call question) {
        ControlSigns x = maker.made();
        question.on(x);
        same(call, maker, x);
    }

    private static void same(String call, Maker maker, ControlSigns x) {
        dueSame("behind " + call, maker.made(), x);
    }

    /** All that can be asked of two objects is the same; both are used up. */
    static void dueSame(String when, ControlSigns one, ControlSigns other) {
        List<Long> want = everything(one);
        List<Long> got = everything(other);
        due("how much can be asked " + when, want.size(), got.size());
        for (int k = 0; k < want.size() && k < got.size(); k++) {
            if (!want.get(k).equals(got.get(k))) {
                due("answer " + k + " of all that can be asked " + when, want.get(k), got.get(k));
                return;
            }
        }
    }

    /** All that can be asked of an object, what is hidden in it (UNDONE, IMAGES, the text) too; it uses the object up. */
    private static List<Long> everything(ControlSigns x) {
        List<Long> all = new ArrayList<>();
        askCounts(all, x);
        askTold(all, x);
        askTaken(all, x);
        for (int k = 0; k < 11 && x.count(7) > 0; k++) {
            all.add((long) x.undo());
            askTold(all, x);
        }
        for (int image = 0; image < 2; image++) {
            all.add((long) x.back(image));
            askTold(all, x);
        }
        all.add((long) x.house());
        askCounts(all, x);
        askTold(all, x);
        return all;
    }

    private static void askCounts(List<Long> all, ControlSigns x) {
        for (int what = 0; what < 8; what++) {
            all.add((long) x.count(what));
        }
    }

    private static void askTold(List<Long> all, ControlSigns x) {
        int polynomials = x.count(0);
        for (int p = 0; p < polynomials; p++) {
            long coefficient = x.coef(p, 0);
            for (int k = 1; k < 8 && coefficient != NO; k++) {
                all.add(coefficient);
                coefficient = x.coef(p, k);
            }
            all.add(x.wish(p));
        }
        int boxes = x.count(1);
        for (int box = 0; box < boxes; box++) {
            all.add(x.box(box, 0));
            all.add(x.box(box, 1));
        }
    }

    private static void askTaken(List<Long> all, ControlSigns x) {
        all.add((long) x.unseen());
        all.add((long) x.brackets());
        all.add((long) x.makes());
        all.add(x.witness(0));
        all.add((long) x.proves());
        all.add(x.narrowed(3, 0, 0));
        all.add((long) x.sure(0));
        all.add((long) x.sure(1));
        all.add((long) x.first());
        all.add(x.value(5, 1, 0));
        all.add(x.end(5, 1, 0));
    }
}
