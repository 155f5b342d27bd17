import java.util.Set;
import java.util.TreeSet;

/**
 * What is the same for all calls: which numbers are refused, on both sides and at the far ends of the ints;
 * the order in which a call is refused; that a call that is refused, or only asks, changes nothing; 512 calls.
 */
public final class RefusalEdgeTest extends Edges {
    /** A call with numbers. */
    private interface Numbers {
        long on(ControlSigns x, int[] a);
    }

    public static void main(String[] args) {
        constants();
        argumentsOfOrders();
        argumentsOfQuestions();
        badAheadOfState();
        stateAheadOfTheRest();
        nothingTaken();
        questionsChangeNothing();
        objectsApart();
        anyNumbers();
        manyLetters();
        manyTexts();
        manyChanges();
        manyImages();
        manyQuestions();
        finish();
    }

    private static void constants() {
        by("BAD = -1, STATE = -2, FULL = -3, NONE = -9, WITNESS = -7, UNSURE = -8; NO = -4611686018427387904L");
        due("BAD", -1, ControlSigns.BAD);
        due("STATE", -2, ControlSigns.STATE);
        due("FULL", -3, ControlSigns.FULL);
        due("NONE", -9, ControlSigns.NONE);
        due("WITNESS", -7, ControlSigns.WITNESS);
        due("UNSURE", -8, ControlSigns.UNSURE);
        due("NO", -4611686018427387904L, ControlSigns.NO);
    }

    // ---- BAD

    /**
     * Of each number of a call the last that is taken and all kinds that are refused, the other numbers being right.
     * Bounds stand in pairs; a bound at the far end of the ints is none.
     */
    private static void arguments(String name, long refusal, int[] right, int[] bounds, Numbers call) {
        by("Refused, and nothing changes: BAD (a number is not as told, or there is no such thing): " + name);
        for (int j = 0; j < right.length; j++) {
            int least = bounds[2 * j];
            int most = bounds[2 * j + 1];
            for (int number : beside(right[j], least, most)) {
                int[] a = right.clone();
                a[j] = number;
                refused(told(name, a), refusal, Edges::rich, x -> call.on(x, a));
            }
            for (int number : new int[] {least, most}) {
                int[] a = right.clone();
                a[j] = number;
                due(told(name, a) + " is not refused", 0, call.on(rich(), a) == refusal ? 1 : 0);
            }
        }
    }

    private static String told(String name, int[] a) {
        StringBuilder call = new StringBuilder(name).append('(');
        for (int j = 0; j < a.length; j++) {
            call.append(j == 0 ? "" : ", ").append(a[j]);
        }
        return call.append(')').toString();
    }

    /** Numbers outside of bounds: next to them, far away, and such as look right when bits are lost. */
    private static Set<Integer> beside(int right, int least, int most) {
        long[] wanted = {least - 1L, least - 2L, most + 1L, most + 2L, LEAST, LEAST + 1L, MOST - 1L, MOST,
            right + 256L, right - 256L, right + 65536L, right - 65536L, right + (1L << 30), (right + 1L) * -1, LEAST + (long) right};
        Set<Integer> numbers = new TreeSet<>();
        for (long number : wanted) {
            if ((number < least || number > most) && number >= LEAST && number <= MOST) {
                numbers.add((int) number);
            }
        }
        return numbers;
    }

    private static int[] row(int... numbers) {
        return numbers;
    }

    private static void argumentsOfOrders() {
        arguments("type", BAD, row('p'), row(0, 255), (x, a) -> x.type(a[0]));
        arguments("takes", BAD, row(0, 0), row(0, 2, 0, 1), (x, a) -> x.takes(a[0], a[1]));
        arguments("coefs", BAD, row(0, 0, 7), row(0, 2, 0, 2, -50, 50), (x, a) -> x.coefs(a[0], a[1], a[2]));
        arguments("ends", BAD, row(1, -3, 3), row(0, 1, -5, 2, -2, 5), (x, a) -> x.ends(a[0], a[1], a[2]));
        arguments("wishes", BAD, row(0, 1), row(0, 2, -1, 1), (x, a) -> x.wishes(a[0], a[1]));
        arguments("sees", BAD, row(2, 0), row(-5, 5, -1, 1), (x, a) -> x.sees(a[0], a[1]));
        arguments("keep", BAD, row(0), row(0, 1), (x, a) -> x.keep(a[0]));
        arguments("back", BAD, row(0), row(0, 1), (x, a) -> x.back(a[0]));
    }

    private static void argumentsOfQuestions() {
        arguments("coef", NO, row(0, 0), row(0, 2, 0, 2), (x, a) -> x.coef(a[0], a[1]));
        arguments("box", NO, row(0, 0), row(0, 1, 0, 1), (x, a) -> x.box(a[0], a[1]));
        arguments("control", NO, row(1, 1, 1, 0), row(1, 127, 0, 2, 0, 2, 0, 1),
            (x, a) -> x.control(a[0], a[1], a[2], a[3]));
        arguments("variation", BAD, row(1, 0), row(1, 127, 0, 2), (x, a) -> x.variation(a[0], a[1]));
        arguments("end", NO, row(1, 0, 0), row(1, 127, 0, 1, 0, 1), (x, a) -> x.end(a[0], a[1], a[2]));
        arguments("value", NO, row(1, 0, 0), row(1, 127, 0, 1, 0, 1), (x, a) -> x.value(a[0], a[1], a[2]));
        arguments("bracket", BAD, row(0, 0), row(0, MOST, 0, 1), (x, a) -> x.bracket(a[0], a[1]));
        arguments("paper", BAD, row(0), row(0, MOST), (x, a) -> x.paper(a[0]));
        arguments("witness", NO, row(0), row(0, 1), (x, a) -> x.witness(a[0]));
        arguments("narrowed", NO, row(1, 0, 0), row(0, 20, 0, 1, 0, 1), (x, a) -> x.narrowed(a[0], a[1], a[2]));
        arguments("sure", BAD, row(0), row(0, 2), (x, a) -> x.sure(a[0]));
        arguments("wish", NO, row(0), row(0, 2), (x, a) -> x.wish(a[0]));
        arguments("count", BAD, row(0), row(0, 7), (x, a) -> x.count(a[0]));
    }

    // ---- the order

    private static void badAheadOfState() {
        by("Refused, the first of these: BAD, STATE: both hold");
        Maker[] lacking = {ControlSigns::new, () -> told("p1;"), () -> told("b0 1;")};
        for (Maker maker : lacking) {
            due("variation(0, 0)", BAD, maker.made().variation(0, 0));
            due("variation(1, 3)", BAD, maker.made().variation(1, 3));
            due("bracket(-1, 0)", BAD, maker.made().bracket(-1, 0));
            due("bracket(0, 2)", BAD, maker.made().bracket(0, 2));
            due("paper(-1)", BAD, maker.made().paper(-1));
            due("back(2)", BAD, maker.made().back(2));
            due("back(-1)", BAD, maker.made().back(-1));
        }
        due("sure(3)", BAD, new ControlSigns().sure(3));
        due("sure(-1)", BAD, told("p1;").sure(-1));
        by("Refused, the first of these: BAD: there is no such thing to be as it is");
        due("coefs(0, 0, 0)", BAD, new ControlSigns().coefs(0, 0, 0));
        due("coefs(0, 1, 0): no such COEFFICIENT", BAD, told("p1;b0 1;").coefs(0, 1, 0));
        due("ends(0, 0, 0)", BAD, new ControlSigns().ends(0, 0, 0));
        due("wishes(0, 0)", BAD, new ControlSigns().wishes(0, 0));
        due("wishes(1, 0): no such POLYNOMIAL", BAD, told("p1;b0 1;").wishes(1, 0));
    }

    private static void stateAheadOfTheRest() {
        by("Refused, the first of these: STATE, then as told");
        ControlSigns x = told("p1;");
        due("bracket(5, 0): STATE, not NONE", STATE, x.bracket(5, 0));
        due("paper(5): STATE, not NONE", STATE, x.paper(5));
        due("proves(), an empty text: STATE, not a FAULT", STATE, x.proves());
        x.type('x');
        due("proves(): STATE, not a FAULT", STATE, x.proves());
        due("first(): STATE, not NONE", STATE, x.first());
    }

    private static void nothingTaken() {
        by("STATE: what hangs on what is TAKEN, if there is no such POLYNOMIAL or BOX");
        String[] texts = {"", "p1;p2;p3;", "b0 1;b1 2;b2 3;"};
        for (String text : texts) {
            Maker maker = () -> told(text);
            refused("variation(1, 0) of '" + text + "'", STATE, maker, x -> x.variation(1, 0));
            refused("brackets() of '" + text + "'", STATE, maker, x -> x.brackets());
            refused("bracket(0, 0) of '" + text + "'", STATE, maker, x -> x.bracket(0, 0));
            refused("makes() of '" + text + "'", STATE, maker, x -> x.makes());
            refused("paper(0) of '" + text + "'", STATE, maker, x -> x.paper(0));
            refused("proves() of '" + text + "'", STATE, maker, x -> x.proves());
            refused("control(1, 0, 0, 0) of '" + text + "'", NO, maker, x -> x.control(1, 0, 0, 0));
            refused("value(1, 0, 0) of '" + text + "'", NO, maker, x -> x.value(1, 0, 0));
            refused("witness(0) of '" + text + "'", NO, maker, x -> x.witness(0));
            refused("narrowed(0, 0, 0) of '" + text + "'", NO, maker, x -> x.narrowed(0, 0, 0));
        }
        for (String text : new String[] {"", "p1;p2;p3;"}) {
            Maker maker = () -> told(text);
            refused("end(1, 0, 0) of '" + text + "'", NO, maker, x -> x.end(1, 0, 0));
            refused("sure(0) of '" + text + "'", STATE, maker, x -> x.sure(0));
            refused("first() of '" + text + "'", STATE, maker, x -> x.first());
        }
    }

    // ---- that nothing changes

    private static void questionsChangeNothing() {
        by("A call that only asks changes nothing");
        Maker[] makers = {Edges::rich, Edges::full, () -> told("p1-4 8;p0 4 0-5 0 1;b0 1;b-3 3;")};
        for (Maker maker : makers) {
            changesNothing("coef", maker, x -> x.coef(0, 1));
            changesNothing("box", maker, x -> x.box(0, 1));
            changesNothing("control", maker, x -> x.control(5, 2, 1, 1));
            changesNothing("variation", maker, x -> x.variation(5, 2));
            changesNothing("end", maker, x -> x.end(5, 1, 1));
            changesNothing("value", maker, x -> x.value(5, 1, 1));
            changesNothing("brackets", maker, x -> x.brackets());
            changesNothing("bracket", maker, x -> x.bracket(0, 1));
            changesNothing("makes", maker, x -> x.makes());
            changesNothing("paper", maker, x -> x.paper(0));
            changesNothing("witness", maker, x -> x.witness(1));
            changesNothing("proves", maker, x -> x.proves());
            changesNothing("narrowed", maker, x -> x.narrowed(20, 1, 1));
            changesNothing("sure", maker, x -> x.sure(2));
            changesNothing("first", maker, x -> x.first());
            changesNothing("wish", maker, x -> x.wish(0));
            changesNothing("unseen", maker, x -> x.unseen());
            changesNothing("count", maker, x -> x.count(4));
        }
    }

    private static void objectsApart() {
        by("An object stands alone: what is told to another one changes nothing of it");
        ControlSigns x = rich();
        ControlSigns y = full();
        y.keep(0);
        y.coefs(0, 0, 50);
        y.clear();
        y.house();
        dueSame("behind calls of another object", rich(), x);
    }

    // ---- any numbers

    private static final int[] ANY = {LEAST, LEAST + 1, -65536, -257, -51, -6, -2, -1, 0, 1, 2, 3, 5, 6, 7, 8, 20, 21, 50, 51, 63, 64,
        127, 128, 255, 256, 65536, 1 << 30, MOST - 1, MOST};

    /** All of ANY in each place of a call; what is asked twice is answered twice the same. */
    private static void answersAny(String name, int places, Maker maker, Numbers call) {
        int all = 1;
        for (int j = 0; j < places; j++) {
            all *= ANY.length;
        }
        ControlSigns x = maker.made();
        int calls = 400;
        int answered = 0;
        for (int k = 0; k < all; k++) {
            int[] a = new int[places];
            int rest = k;
            for (int j = 0; j < places; j++) {
                a[j] = ANY[rest % ANY.length];
                rest /= ANY.length;
            }
            if (calls >= 400) {
                x = maker.made();
                calls = 100;
            }
            calls += 2;
            long first = call.on(x, a);
            long second = call.on(x, a);
            answered++;
            if (first != second) {
                due(told(name, a) + ", asked again", first, second);
            }
        }
        due(name + ": how many calls were answered", all, answered);
    }

    private static void anyNumbers() {
        by("No call throws, whatever the numbers are: what is asked is answered");
        Maker[] makers = {ControlSigns::new, () -> told("p1 2 3 4 5 6;"), () -> told("b0 1;"), () -> told("p38 45 0 37 45-1;b-1 5;")};
        for (Maker maker : makers) {
            answersAny("coef", 2, maker, (x, a) -> x.coef(a[0], a[1]));
            answersAny("box", 2, maker, (x, a) -> x.box(a[0], a[1]));
            answersAny("variation", 2, maker, (x, a) -> x.variation(a[0], a[1]));
            answersAny("end", 3, maker, (x, a) -> x.end(a[0], a[1], a[2]));
            answersAny("value", 3, maker, (x, a) -> x.value(a[0], a[1], a[2]));
            answersAny("control", 4, maker, (x, a) -> x.control(a[0], a[1], a[2], a[3]));
            answersAny("bracket", 2, maker, (x, a) -> x.bracket(a[0], a[1]));
            answersAny("paper", 1, maker, (x, a) -> x.paper(a[0]));
            answersAny("witness", 1, maker, (x, a) -> x.witness(a[0]));
            answersAny("narrowed", 3, maker, (x, a) -> x.narrowed(a[0], a[1], a[2]));
            answersAny("sure", 1, maker, (x, a) -> x.sure(a[0]));
            answersAny("wish", 1, maker, (x, a) -> x.wish(a[0]));
            answersAny("count", 1, maker, (x, a) -> x.count(a[0]));
        }
        by("No call throws, whatever the numbers are: orders");
        for (Maker maker : new Maker[] {ControlSigns::new, () -> told("p1 2 3 4 5 6;"), () -> told("b0 1;"), Edges::rich}) {
            orderAny("type", 1, maker, (x, a) -> x.type(a[0]));
            orderAny("takes", 2, maker, (x, a) -> x.takes(a[0], a[1]));
            orderAny("coefs", 3, maker, (x, a) -> x.coefs(a[0], a[1], a[2]));
            orderAny("ends", 3, maker, (x, a) -> x.ends(a[0], a[1], a[2]));
            orderAny("wishes", 2, maker, (x, a) -> x.wishes(a[0], a[1]));
            orderAny("sees", 2, maker, (x, a) -> x.sees(a[0], a[1]));
            orderAny("keep", 1, maker, (x, a) -> x.keep(a[0]));
            orderAny("back", 1, maker, (x, a) -> x.back(a[0]));
        }
    }

    /** An order that was carried out or found so answers otherwise the second time; one that is BAD stays so. */
    private static void orderAny(String name, int places, Maker maker, Numbers call) {
        answersAny(name, places, maker, (x, a) -> call.on(x, a) == BAD ? BAD : 0);
    }

    // ---- 512 calls

    private static void manyLetters() {
        by("An object is used for at most 512 calls after it has been made: letters");
        ControlSigns x = new ControlSigns();
        for (int call = 1; call <= 511; call++) {
            due("type(' '), call " + call, call <= 120 ? call : FULL, x.type(' '));
        }
        due("clear(), call 512", 120, x.clear());
        ControlSigns y = new ControlSigns();
        for (int call = 1; call <= 512; call += 2) {
            due("type('p'), call " + call, 1, y.type('p'));
            due("clear(), call " + (call + 1), 1, y.clear());
        }
    }

    private static void manyTexts() {
        by("An object is used for at most 512 calls after it has been made: texts");
        ControlSigns x = new ControlSigns();
        for (int text = 0; text < 73; text++) {
            write(x, text % 2 == 0 ? "b-5-4;" : "p5 49;");
            due("house() of text " + text, 1, x.house());
        }
        due("BOXES, call 512", 1, x.count(1));
        ControlSigns y = new ControlSigns();
        for (int call = 1; call <= 512; call++) {
            due("house() of no letters, call " + call, 0, y.house());
        }
    }

    private static void manyChanges() {
        by("An object is used for at most 512 calls after it has been made: changes");
        ControlSigns x = told("p0;b0 1;");
        for (int k = 1; k <= 490; k++) {
            due("coefs(), change " + k, 1, x.coefs(0, 0, k % 2 == 1 ? 50 : -50));
        }
        due("what may be UNDONE", 10, x.count(7));
        for (int left = 9; left >= 0; left--) {
            due("undo()", left, x.undo());
        }
        due("undo()", STATE, x.undo());
        due("coef(0, 0), call 512", -50, x.coef(0, 0));
        ControlSigns y = told("p0;b0 1;");
        for (int k = 1; k <= 248; k++) {
            due("wishes(), change " + k, 1, y.wishes(0, 1));
            due("undo(), change " + k, 0, y.undo());
        }
        due("wish(0)", 0, y.wish(0));
        ControlSigns z = new ControlSigns();
        for (int call = 1; call <= 511; call++) {
            due("sees(), call " + call, call <= 6 ? call : FULL, z.sees(5, -1));
        }
        due("forget(), call 512", 6, z.forget());
    }

    private static void manyImages() {
        by("An object is used for at most 512 calls after it has been made: IMAGES");
        ControlSigns x = told("p0;b0 1;");
        for (int k = 1; k <= 125; k++) {
            due("keep()", 1, x.keep(k % 2));
            due("coefs()", 1, x.coefs(0, 0, 5));
            due("back()", 1, x.back(k % 2));
            due("coef(0, 0)", 0, x.coef(0, 0));
        }
        due("coefs()", 1, x.coefs(0, 0, 6));
        due("undo(), call 511", 0, x.undo());
        due("coef(0, 0), call 512", 0, x.coef(0, 0));
    }

    private static void manyQuestions() {
        by("An object is used for at most 512 calls after it has been made: questions");
        String text = "p38 45 0 37 45;b-1 5;";
        Call[] calls = {x -> x.control(127, 2, 6, 0), x -> x.variation(127, 2), x -> x.end(127, 1, 0),
            x -> x.value(127, 1, 0), x -> x.brackets(), x -> x.bracket(0, 0), x -> x.makes(), x -> x.paper(5),
            x -> x.witness(0), x -> x.proves(), x -> x.narrowed(20, 1, 0), x -> x.sure(2), x -> x.first(), x -> x.unseen()};
        long[] want = {33013, 0, 5, 33013, 1, 64, UNSURE, NONE, NO, -10, 34717, 0, 1, 1};
        for (int k = 0; k < calls.length; k++) {
            ControlSigns x = told(text);
            for (int call = text.length() + 2; call <= 512; call++) {
                long got = calls[k].on(x);
                if (call == 512 || got != want[k]) {
                    due("question " + k + ", call " + call, want[k], got);
                }
            }
        }
    }
}
