import java.util.function.LongSupplier;

/** One method a promise: ordinary inputs, the edges that the document names, wrong inputs. */
public final class PromiseTest {
    private static final long NO = ControlSigns.NO;
    private static final int BAD = ControlSigns.BAD, STATE = ControlSigns.STATE, FULL = ControlSigns.FULL;
    private static final int NONE = ControlSigns.NONE, WITNESS = ControlSigns.WITNESS, UNSURE = ControlSigns.UNSURE;
    private static final int LEAST = Integer.MIN_VALUE, MOST = Integer.MAX_VALUE;

    private static int wrong = 0;
    private static int promise = 0;

    public static void main(String[] args) {
        newObject();
        type();
        clear();
        houseTells();
        houseFaults();
        houseAnew();
        takes();
        coef();
        box();
        coefs();
        ends();
        wishes();
        undo();
        control();
        variation();
        end();
        value();
        brackets();
        bracket();
        makes();
        paper();
        witness();
        proves();
        narrowed();
        sure();
        first();
        wish();
        sees();
        forget();
        unseen();
        keep();
        back();
        count();
        System.out.println(wrong == 0 ? "all promises hold" : wrong + " answers are not as due");
        if (wrong != 0) {
            System.exit(1);
        }
    }

    // ---- helpers

    private static void due(String what, long want, long got) {
        if (want != got) {
            wrong++;
            System.out.println("promise " + promise + ": " + what + " answered " + got + ", due is " + want);
        }
    }

    private static void dueAll(String what, long want, LongSupplier... calls) {
        for (int k = 0; k < calls.length; k++) {
            due(what + ", call " + k, want, calls[k].getAsLong());
        }
    }

    private static void write(ControlSigns x, String text) {
        for (int k = 0; k < text.length(); k++) {
            x.type(text.charAt(k));
        }
    }

    private static ControlSigns told(String text) {
        ControlSigns x = new ControlSigns();
        write(x, text);
        if (x.house() < 0) {
            wrong++;
            System.out.println("promise " + promise + ": not read: " + text);
        }
        return x;
    }

    private static int read(String text) {
        ControlSigns x = new ControlSigns();
        write(x, text);
        return x.house();
    }

    private static int proof(ControlSigns x, String text) {
        x.clear();
        write(x, text);
        return x.proves();
    }

    private static String paperOf(ControlSigns x) {
        StringBuilder letters = new StringBuilder();
        for (int k = 0; x.paper(k) >= 0; k++) {
            letters.append((char) x.paper(k));
        }
        return letters.toString();
    }

    private static void dueText(String what, String want, String got) {
        if (!want.equals(got)) {
            wrong++;
            System.out.println("promise " + promise + ": " + what + " answered " + got + ", due is " + want);
        }
    }

    // ---- what is told

    private static void newObject() {
        promise = 1;
        ControlSigns x = new ControlSigns();
        due("polynomials", 0, x.count(0));
        due("boxes", 0, x.count(1));
        due("taken p", 0, x.count(2));
        due("taken box", 0, x.count(3));
        due("n", NONE, x.count(4));
        due("seen", 0, x.count(5));
        due("letters", 0, x.count(6));
        due("undone", 0, x.count(7));
        dueAll("nothing taken", STATE, () -> x.variation(1, 0), x::brackets, () -> x.bracket(0, 0), x::makes,
            () -> x.paper(0), x::proves, () -> x.sure(0), x::first, x::undo, () -> x.back(0), () -> x.back(1));
        dueAll("no number", NO, () -> x.control(1, 0, 0, 0), () -> x.end(1, 0, 0), () -> x.value(1, 0, 0),
            () -> x.witness(0), () -> x.narrowed(0, 0, 0), () -> x.coef(0, 0), () -> x.box(0, 0), () -> x.wish(0));
        dueAll("no such thing", BAD, () -> x.takes(0, 0), () -> x.coefs(0, 0, 1), () -> x.ends(0, 0, 1),
            () -> x.wishes(0, 1));
        due("unseen", 0, x.unseen());
    }

    private static void type() {
        promise = 2;
        ControlSigns x = new ControlSigns();
        dueAll("no letter", BAD, () -> x.type(-1), () -> x.type(256), () -> x.type(LEAST), () -> x.type(MOST));
        due("the least letter", 1, x.type(0));
        due("the most letter", 2, x.type(255));
        for (int k = 3; k <= 120; k++) {
            due("letter " + k, k, x.type(k));
        }
        due("full", FULL, x.type('p'));
        due("BAD goes ahead of FULL", BAD, x.type(256));
        due("nothing more came", 120, x.count(6));
        x.clear();
        due("room again", 1, x.type(' '));
    }

    private static void clear() {
        promise = 3;
        ControlSigns x = new ControlSigns();
        due("an empty text", 0, x.clear());
        write(x, "p 1");
        due("three letters", 3, x.clear());
        due("empty now", 0, x.count(6));
        due("again", 0, x.clear());
        write(x, "b 0 1;");
        due("the old letters are gone", 1, x.house());
    }

    private static void houseTells() {
        promise = 4;
        due("an empty text", 0, read(""));
        due("blanks alone", 0, read("    "));
        due("one p", 1, read("p0;"));
        due("one b", 1, read("b-5 5;"));
        due("six items, in any order", 6, read("b0 1;p1;b-1 0;p2;p3 3;b2 3;"));
        due("blanks anywhere", 2, read("  p  -  5  0 ; b - 5 - 4 ;  "));
        due("no blanks where none is needed", 2, read("p50-50-0;b-5-4;"));
        due("120 letters", 1, read("p1;" + " ".repeat(117)));
        ControlSigns x = told("p-0-49 50 0;b-2-1;p-50;b 0 5;");
        due("- 0 is 0", 0, x.coef(0, 0));
        due("coef", -49, x.coef(0, 1));
        due("coef", 50, x.coef(0, 2));
        due("a last 0 counts", 0, x.coef(0, 3));
        due("n", 3, x.count(4));
        due("coef of the second", -50, x.coef(1, 0));
        due("A", -2, x.box(0, 0));
        due("B", -1, x.box(0, 1));
        due("A of the second", 0, x.box(1, 0));
        due("B of the second", 5, x.box(1, 1));
        due("the text is empty", 0, x.count(6));
    }

    private static void fault(String text, int place) {
        due("house of '" + text + "'", -10 - place, read(text));
    }

    private static void houseFaults() {
        promise = 4;
        fault("p", 1);
        fault("p ", 2);
        fault("p1", 2);
        fault("p-", 2);
        fault("b1", 2);
        fault("b1 2 ", 5);
        fault("p;", 1);
        fault("p-;", 2);
        fault("p--1;", 2);
        fault("p1-;", 3);
        fault("pp", 1);
        fault("p1 b", 3);
        fault(";", 0);
        fault("p1;;", 3);
        fault("1", 0);
        fault("  -1", 2);
        fault("p1;-", 3);
        fault("p1;5", 3);
        fault("P1;", 0);
        fault("p1,", 2);
        fault("p+1;", 1);
        fault("p1\t;", 2);
        fault("p51;", 1);
        fault("p - 51;", 4);
        fault("p100;", 1);
        fault("p1 123456789012345678901234567890;", 3);
        fault("p00;", 1);
        fault("p05;", 1);
        fault("p0 00;", 3);
        fault("p1 2 3 4 5 6 7;", 13);
        fault("p1 2 3 4 5 6 -7;", 13);
        fault("p1 2 3 4 5 6 07;", 13);
        fault("p1;p2;p3;p4;", 9);
        fault("p1;p2;p3; p4;", 10);
        fault("b0 1;b0 1;b0 1;b0 1;", 15);
        fault("b;", 1);
        fault("b1;", 2);
        fault("b1 2 3;", 5);
        fault("b1 2-3;", 4);
        fault("b6 7;", 1);
        fault("b-6 7;", 2);
        fault("b0 6;", 3);
        fault("b0-1;", 3);
        fault("b0 0;", 3);
        fault("b5 5;", 3);
        fault("b-0-0;", 4);
        fault("b-5-6;", 4);
        fault("p1;b0 1;p1 99;@", 11);
        fault("@p1;", 0);
        ControlSigns x = told("p1 2;b0 1;");
        x.wishes(0, 1);
        x.sees(0, 1);
        x.keep(1);
        write(x, "p9;b2 3;x");
        due("a fault", -18, x.house());
        due("the text stays", 9, x.count(6));
        due("polynomials stay", 2, x.coef(0, 1));
        due("boxes stay", 0, x.box(0, 0));
        due("wishes stay", 1, x.wish(0));
        due("seen stays", 1, x.count(5));
        due("undone stays", 1, x.count(7));
        due("images stay", 1, x.back(1));
    }

    private static void houseAnew() {
        promise = 4;
        ControlSigns x = told("p1;p2;b0 1;b1 2;");
        x.takes(1, 1);
        x.wishes(0, 1);
        x.coefs(1, 0, 7);
        x.sees(0, 1);
        x.keep(0);
        x.keep(1);
        write(x, "p3 4;b2 3;");
        due("items", 2, x.house());
        due("polynomials", 1, x.count(0));
        due("boxes", 1, x.count(1));
        due("taken", 0, x.count(2));
        due("taken box", 0, x.count(3));
        due("n", 1, x.count(4));
        due("coef", 3, x.coef(0, 0));
        due("coef", 4, x.coef(0, 1));
        due("no wish", 0, x.wish(0));
        due("nothing seen", 0, x.count(5));
        due("images are gone", STATE, x.back(0));
        due("images are gone", STATE, x.back(1));
        due("nothing is undone", STATE, x.undo());
        write(x, "p1 2");
        due("a fault", -14, x.house());
        x.clear();
        write(x, "p-");
        due("a fault behind -", -12, x.house());
        x.clear();
        write(x, "p5 ;");
        due("a fault leaves no trace", 1, x.house());
        due("n", 0, x.count(4));
        due("coef", 5, x.coef(0, 0));
        due("the empty text tells nothing", 0, x.house());
        due("no polynomials", 0, x.count(0));
        due("no boxes", 0, x.count(1));
        due("nothing taken", STATE, x.makes());
    }

    private static void takes() {
        promise = 5;
        ControlSigns x = told("p1;p2;b0 1;b1 2;b2 3;");
        due("takes", 1, x.takes(1, 2));
        due("p", 1, x.count(2));
        due("box", 2, x.count(3));
        dueAll("no such", BAD, () -> x.takes(2, 0), () -> x.takes(-1, 0), () -> x.takes(0, 3), () -> x.takes(0, -1),
            () -> x.takes(MOST, LEAST));
        due("p stays", 1, x.count(2));
        due("box stays", 2, x.count(3));
        due("the same again", 1, x.takes(1, 2));
        due("what hangs on it", 2, x.value(1, 0, 0));
        due("what hangs on it", 3, x.end(1, 1, 0));
        ControlSigns y = told("p1;");
        due("no box", BAD, y.takes(0, 0));
    }

    private static void coef() {
        promise = 6;
        ControlSigns x = told("p1 2 3 4 5 -6;p0;");
        due("the first", 1, x.coef(0, 0));
        due("the last", -6, x.coef(0, 5));
        due("of the second", 0, x.coef(1, 0));
        dueAll("no such", NO, () -> x.coef(0, 6), () -> x.coef(0, -1), () -> x.coef(1, 1), () -> x.coef(2, 0),
            () -> x.coef(-1, 0), () -> x.coef(MOST, MOST), () -> x.coef(LEAST, LEAST));
    }

    private static void box() {
        promise = 7;
        ControlSigns x = told("b-5 5;b-1 0;");
        due("A", -5, x.box(0, 0));
        due("B", 5, x.box(0, 1));
        due("A of the second", -1, x.box(1, 0));
        due("B of the second", 0, x.box(1, 1));
        dueAll("no such", NO, () -> x.box(2, 0), () -> x.box(-1, 0), () -> x.box(0, 2), () -> x.box(0, -1),
            () -> x.box(MOST, LEAST));
    }

    // ---- what is done

    private static void coefs() {
        promise = 8;
        ControlSigns x = told("p1 2;p3;b0 1;");
        due("another", 1, x.coefs(0, 1, -50));
        due("it is", -50, x.coef(0, 1));
        due("the most", 1, x.coefs(0, 1, 50));
        due("that", STATE, x.coefs(0, 1, 50));
        dueAll("bad", BAD, () -> x.coefs(0, 1, 51), () -> x.coefs(0, 1, -51), () -> x.coefs(0, 2, 1),
            () -> x.coefs(0, -1, 1), () -> x.coefs(1, 1, 1), () -> x.coefs(2, 0, 1), () -> x.coefs(-1, 0, 1),
            () -> x.coefs(MOST, MOST, MOST));
        due("nothing changed", 50, x.coef(0, 1));
        due("the others stay", 1, x.coef(0, 0));
        due("the others stay", 3, x.coef(1, 0));
        due("two can be undone", 2, x.count(7));
        due("what hangs on it", 51, x.value(1, 1, 0));
    }

    private static void ends() {
        promise = 9;
        ControlSigns x = told("p0 1;b0 1;b2 3;");
        due("others", 1, x.ends(0, -5, 5));
        due("A", -5, x.box(0, 0));
        due("B", 5, x.box(0, 1));
        due("these", STATE, x.ends(0, -5, 5));
        due("one of both", 1, x.ends(0, -5, 4));
        due("one of both", 1, x.ends(0, -4, 4));
        dueAll("bad", BAD, () -> x.ends(0, 1, 1), () -> x.ends(0, 2, 1), () -> x.ends(0, -6, 1), () -> x.ends(0, 0, 6),
            () -> x.ends(2, 0, 1), () -> x.ends(-1, 0, 1), () -> x.ends(0, LEAST, MOST));
        due("A stays", -4, x.box(0, 0));
        due("B stays", 4, x.box(0, 1));
        due("the other box stays", 2, x.box(1, 0));
        due("three can be undone", 3, x.count(7));
        due("what hangs on it", -4, x.value(1, 0, 0));
    }

    private static void wishes() {
        promise = 10;
        ControlSigns x = told("p1;p2;b0 1;");
        due("it is 0", STATE, x.wishes(0, 0));
        due("above", 1, x.wishes(0, 1));
        due("that", STATE, x.wishes(0, 1));
        due("below", 1, x.wishes(0, -1));
        due("it is", -1, x.wish(0));
        due("none", 1, x.wishes(0, 0));
        due("of the other", 0, x.wish(1));
        dueAll("bad", BAD, () -> x.wishes(0, 2), () -> x.wishes(0, -2), () -> x.wishes(2, 1), () -> x.wishes(-1, 1),
            () -> x.wishes(LEAST, MOST));
        due("three can be undone", 3, x.count(7));
    }

    private static void undo() {
        promise = 11;
        ControlSigns x = told("p1 2;p3;b0 1;b-1 1;");
        due("none", STATE, x.undo());
        x.coefs(0, 1, 7);
        x.ends(1, 2, 3);
        x.wishes(1, -1);
        x.wishes(1, 1);
        x.coefs(0, 1, 7);
        x.ends(0, 5, 0);
        due("refused ones are not known", 4, x.count(7));
        due("the latest", 3, x.undo());
        due("wish", -1, x.wish(1));
        due("the next", 2, x.undo());
        due("wish", 0, x.wish(1));
        due("the next", 1, x.undo());
        due("A", -1, x.box(1, 0));
        due("B", 1, x.box(1, 1));
        due("coef yet", 7, x.coef(0, 1));
        due("the last", 0, x.undo());
        due("coef", 2, x.coef(0, 1));
        due("no more", STATE, x.undo());
        for (int v = 10; v < 22; v++) {
            x.coefs(0, 0, v);
        }
        due("ten are known", 10, x.count(7));
        for (int left = 9; left >= 0; left--) {
            due("undo", left, x.undo());
            due("what it was", 11 + left, x.coef(0, 0));
        }
        due("older ones are lost", STATE, x.undo());
        due("stays", 11, x.coef(0, 0));
    }

    // ---- control

    private static void control() {
        promise = 12;
        ControlSigns x = told("p1 0 0 1;b-1 2;p0;p5 1;");
        long[] row = {0, 3, -3, 9};
        for (int i = 0; i < 4; i++) {
            due("c " + i, row[i], x.control(1, 0, i, 0));
            due("c " + i + ", lower", 1, x.control(1, 0, i, 1));
        }
        due("raised, upper", 9, x.control(1, 1, 1, 0));
        due("raised, lower", 4, x.control(1, 1, 1, 1));
        due("raised twice", 9, x.control(1, 2, 1, 0));
        due("raised twice, lower", 5, x.control(1, 2, 1, 1));
        due("the last, raised twice", 9, x.control(1, 2, 5, 0));
        due("the upper half", 9, x.control(3, 0, 0, 0));
        due("the upper half, lower", 8, x.control(3, 0, 0, 1));
        x.takes(1, 0);
        due("0 is 0 by 1", 1, x.control(127, 2, 2, 1));
        x.takes(2, 0);
        due("a line", 4, x.control(64, 0, 0, 0));
        due("a 64th on", 259, x.control(64, 0, 1, 0));
        due("a 64th on, lower", 64, x.control(64, 0, 1, 1));
        x.takes(0, 0);
        dueAll("bad", NO, () -> x.control(0, 0, 0, 0), () -> x.control(128, 0, 0, 0), () -> x.control(1, 3, 0, 0),
            () -> x.control(1, -1, 0, 0), () -> x.control(1, 0, 4, 0), () -> x.control(1, 0, -1, 0),
            () -> x.control(1, 1, 5, 0), () -> x.control(1, 2, 6, 0), () -> x.control(1, 0, 0, 2),
            () -> x.control(1, 0, 0, -1), () -> x.control(LEAST, MOST, LEAST, MOST));
        ControlSigns v = told("p50-50 50-50 50-50;b-5 5;");
        due("n 5, raised twice, the first", 195300, v.control(1, 2, 0, 0));
        due("n 5, raised twice, the last", -130200, v.control(1, 2, 7, 0));
        due("n 5, raised twice, no more", NO, v.control(1, 2, 8, 0));
        ControlSigns y = told("p1;");
        due("no box", NO, y.control(1, 0, 0, 0));
        ControlSigns z = told("b0 1;");
        due("no polynomial", NO, z.control(1, 0, 0, 0));
    }

    private static void variation() {
        promise = 13;
        ControlSigns x = told("p6-5 1;b0 4;p0 0 1;p-1 0 1;");
        due("two", 2, x.variation(1, 0));
        due("raised", 2, x.variation(1, 1));
        due("raised twice", 2, x.variation(1, 2));
        due("one", 1, x.variation(3, 0));
        due("the last node", 0, x.variation(127, 2));
        x.takes(1, 0);
        due("0s are left out", 0, x.variation(1, 0));
        x.takes(2, 0);
        x.ends(0, -1, 2);
        due("0 ahead is left out", 1, x.variation(1, 0));
        x.coefs(2, 0, 0);
        x.coefs(2, 2, 0);
        due("nought alone", 0, x.variation(1, 2));
        dueAll("bad", BAD, () -> x.variation(0, 0), () -> x.variation(128, 0), () -> x.variation(1, 3),
            () -> x.variation(1, -1), () -> x.variation(MOST, LEAST));
        ControlSigns y = told("p1;");
        due("no box", STATE, y.variation(1, 0));
        due("BAD goes ahead of STATE", BAD, y.variation(0, 0));
        ControlSigns z = told("p2-6 3;b0 2;");
        due("fewer by raising", 2, z.variation(1, 0));
        due("once", 2, z.variation(1, 1));
        due("twice", 2, z.variation(1, 2));
        ControlSigns w = told("p1-3 3;b0 1;");
        due("gone by raising: not raised", 2, w.variation(1, 0));
        due("gone by raising: once", 0, w.variation(1, 1));
    }

    private static void end() {
        promise = 14;
        ControlSigns x = told("p1;b-5 4;");
        due("LO", -5, x.end(1, 0, 0));
        due("HI", 4, x.end(1, 1, 0));
        due("whole", 1, x.end(1, 1, 1));
        due("middle", -1, x.end(2, 1, 0));
        due("middle, lower", 2, x.end(3, 0, 1));
        due("64: HI", -311, x.end(64, 1, 0));
        due("64: HI, lower", 64, x.end(64, 1, 1));
        due("127: LO", 247, x.end(127, 0, 0));
        due("127: HI", 4, x.end(127, 1, 0));
        x.ends(0, -1, 1);
        due("0 by 1", 0, x.end(3, 0, 0));
        due("0 by 1", 1, x.end(3, 0, 1));
        due("66 from", -15, x.end(66, 0, 0));
        due("66 from, lower", 16, x.end(66, 0, 1));
        dueAll("bad", NO, () -> x.end(0, 0, 0), () -> x.end(128, 0, 0), () -> x.end(1, 2, 0), () -> x.end(1, -1, 0),
            () -> x.end(1, 0, 2), () -> x.end(1, 0, -1), () -> x.end(LEAST, 0, 0), () -> x.end(MOST, 0, 0));
        ControlSigns y = told("p1;");
        due("no box", NO, y.end(1, 0, 0));
        due("no polynomial: STATE for all that hangs on what is taken", NO, told("b0 1;").end(1, 0, 0));
    }

    private static void value() {
        promise = 15;
        ControlSigns x = told("p1 2 3;b-2 3;p50 50 50 50 50 50;b-5 5;");
        due("at LO", 9, x.value(1, 0, 0));
        due("at HI", 34, x.value(1, 1, 0));
        due("at the middle", 11, x.value(2, 1, 0));
        due("at the middle, lower", 4, x.value(2, 1, 1));
        due("from the other side", 11, x.value(3, 0, 0));
        x.takes(1, 1);
        due("the most", 195300, x.value(1, 1, 0));
        due("the least", -130200, x.value(1, 0, 0));
        dueAll("bad", NO, () -> x.value(0, 0, 0), () -> x.value(128, 0, 0), () -> x.value(1, 2, 0),
            () -> x.value(1, -1, 0), () -> x.value(1, 0, 2), () -> x.value(1, 0, -1), () -> x.value(LEAST, MOST, 0));
        ControlSigns y = told("b0 1;");
        due("no polynomial", NO, y.value(1, 0, 0));
    }

    // ---- roots

    private static void brackets() {
        promise = 16;
        ControlSigns x = told("p6-5 1;b0 4;p1;p0;");
        due("a middle and a node", 2, x.brackets());
        x.takes(1, 0);
        due("none", 0, x.brackets());
        x.takes(2, 0);
        due("nought has none", 0, x.brackets());
        ControlSigns y = told("p1-6 9;b0 1;");
        due("a double root that no middle hits", 1, y.brackets());
        y.coefs(0, 0, 2);
        due("no root", 0, y.brackets());
        due("no box", STATE, told("p1;").brackets());
        due("no polynomial", STATE, told("b0 1;").brackets());
    }

    private static void bracket() {
        promise = 17;
        ControlSigns x = told("p6-5 1;b0 4;");
        due("node", 1, x.bracket(0, 0));
        due("kind", 1, x.bracket(0, 1));
        due("node", 3, x.bracket(1, 0));
        due("kind", 0, x.bracket(1, 1));
        due("no more", NONE, x.bracket(2, 0));
        due("no more", NONE, x.bracket(MOST, 1));
        dueAll("bad", BAD, () -> x.bracket(-1, 0), () -> x.bracket(LEAST, 0), () -> x.bracket(0, 2),
            () -> x.bracket(0, -1), () -> x.bracket(9, 2));
        ControlSigns y = told("p1-6 9;b0 1;");
        due("kind 2", 2, y.bracket(0, 1));
        due("at a node of 64 and more", 85, y.bracket(0, 0));
        ControlSigns v = told("p26-50 39-50-27-3;b-5 5;");
        due("node 64 is not halved", 64, v.bracket(0, 0));
        due("kind 2 at 64", 2, v.bracket(0, 1));
        due("two brackets", 2, v.brackets());
        ControlSigns z = told("p0-1 0 1;b-2 2;");
        due("three roots", 3, z.brackets());
        long[] nodes = {2, 1, 3};
        long[] kinds = {0, 1, 0};
        for (int k = 0; k < 3; k++) {
            due("node of root " + k, nodes[k], z.bracket(k, 0));
            due("kind of root " + k, kinds[k], z.bracket(k, 1));
        }
        ControlSigns w = told("p0 0 1;b-2 2;");
        due("a double root in the middle", 1, w.brackets());
        due("its node", 1, w.bracket(0, 0));
        due("its kind", 1, w.bracket(0, 1));
        due("no box", STATE, told("p1;").bracket(0, 0));
        due("BAD goes ahead of STATE", BAD, told("p1;").bracket(-1, 0));
    }

    // ---- papers

    private static void makes() {
        promise = 18;
        ControlSigns x = told("p2-2 1;b-1 3;p4-10 10;b0 1;p1-3 7;");
        due("halved once", 3, x.makes());
        x.takes(1, 1);
        due("raised once", 1, x.makes());
        x.takes(2, 1);
        due("raised twice", 1, x.makes());
        x.coefs(2, 0, -1);
        due("witness at LO", WITNESS, x.makes());
        ControlSigns y = told("p1-6 9;b0 1;");
        due("unsure: a double root between the places", UNSURE, y.makes());
        y.coefs(0, 0, 0);
        y.coefs(0, 1, 0);
        y.coefs(0, 2, 0);
        due("0 is a witness", WITNESS, y.makes());
        due("no box", STATE, told("p1;").makes());
        due("no polynomial", STATE, told("b0 1;").makes());
    }

    private static void paper() {
        promise = 19;
        ControlSigns x = told("p2-2 1;b-1 3;p4-10 10;b0 1;p1-3 7;");
        dueText("halved once", "s00", paperOf(x));
        due("no more", NONE, x.paper(3));
        due("no more", NONE, x.paper(MOST));
        x.takes(1, 1);
        dueText("raised once", "1", paperOf(x));
        x.takes(2, 1);
        dueText("raised twice", "2", paperOf(x));
        dueAll("bad", BAD, () -> x.paper(-1), () -> x.paper(LEAST));
        ControlSigns y = told("p-1;b0 1;p1-6 9;");
        due("there is none: a witness", NONE, y.paper(0));
        y.takes(1, 0);
        due("there is none: unsure", NONE, y.paper(0));
        due("nor any letter that was written before", NONE, y.paper(1));
        due("no box", STATE, told("p1;").paper(0));
        due("BAD goes ahead of STATE", BAD, told("p1;").paper(-1));
    }

    private static void witness() {
        promise = 20;
        ControlSigns x = told("p6-5 1;b0 4;p1 -1;b0 1;p1 -4;");
        due("upper", 2, x.witness(0));
        due("lower", 1, x.witness(1));
        x.takes(1, 1);
        due("at HI", 1, x.witness(0));
        due("0 at LO", 3, told("p-3 1;b3 4;").witness(0));
        due("below 0 at LO", -2, told("p-3 1;b-2 4;").witness(0));
        x.takes(2, 1);
        due("HI goes ahead of a half", 1, x.witness(0));
        ControlSigns y = told("p2-11 15;b0 1;");
        due("at a middle, upper", 3, y.witness(0));
        due("at a middle, lower", 8, y.witness(1));
        ControlSigns z = told("p1-6 9;b0 1;p1;");
        due("unsure", NO, z.witness(0));
        z.takes(1, 0);
        due("a paper", NO, z.witness(0));
        dueAll("bad", NO, () -> x.witness(2), () -> x.witness(-1), () -> x.witness(LEAST), () -> x.witness(MOST));
        due("no box", NO, told("p1;").witness(0));
    }

    private static void proves() {
        promise = 21;
        ControlSigns x = told("p2-2 1;b-1 3;p4-10 10;b0 1;");
        due("its own paper", 1, proof(x, "s00"));
        due("it stays", 3, x.count(6));
        due("finer than needed", 1, proof(x, "ss00s00"));
        due("other figures that are right", 1, proof(x, "s12"));
        due("a figure that is not right", 0, proof(x, "0"));
        due("no fault, though not right", 0, proof(x, "1"));
        due("empty", -10, proof(x, ""));
        due("too early", -11, proof(x, "s"));
        due("too early", -12, proof(x, "s0"));
        due("behind the end", -13, proof(x, "s000"));
        due("behind the end, a blank", -11, proof(x, "0 "));
        due("a fault goes ahead of a figure that is not right", -11, proof(x, "0s"));
        due("no figure", -10, proof(x, "3"));
        due("no letter of it", -11, proof(x, "sS"));
        due("a blank", -10, proof(x, " s00"));
        due("s at 32, then too early", -16, proof(x, "ssssss"));
        due("s at 64", -16, proof(x, "sssssss0"));
        due("s at 65", -17, proof(x, "ssssss0s"));
        due("six times halved, to the end", 1, proof(x, "ssssss0000000"));
        x.takes(1, 1);
        due("0 is not right", 0, proof(x, "0"));
        due("1 is right", 1, proof(x, "1"));
        due("2 is right too", 1, proof(x, "2"));
        ControlSigns y = told("p1;");
        due("no box", STATE, proof(y, "0"));
        due("STATE goes ahead of a fault", STATE, proof(y, "x"));
    }

    // ---- bounds

    private static void narrowed() {
        promise = 22;
        ControlSigns x = told("p6-5 1;b0 4;p7;p0 0 1;b-2 2;");
        due("LOWER 0", -4, x.narrowed(0, 0, 0));
        due("LOWER 1", -1, x.narrowed(1, 0, 0));
        due("UPPER 0", 2, x.narrowed(0, 1, 0));
        due("UPPER 1", 0, x.narrowed(1, 1, 0));
        due("LOWER 3", -1, x.narrowed(3, 0, 0));
        due("LOWER 3, lower", 4, x.narrowed(3, 0, 1));
        due("UPPER 3", -1, x.narrowed(3, 1, 0));
        due("UPPER 3, lower", 4, x.narrowed(3, 1, 1));
        x.takes(1, 0);
        due("a whole number", 7, x.narrowed(20, 0, 0));
        due("a whole number, lower", 1, x.narrowed(20, 1, 1));
        x.takes(2, 1);
        due("the square, not halved", -4, x.narrowed(0, 0, 0));
        due("the square, halved", 0, x.narrowed(1, 0, 0));
        dueAll("bad", NO, () -> x.narrowed(-1, 0, 0), () -> x.narrowed(21, 0, 0), () -> x.narrowed(0, 2, 0),
            () -> x.narrowed(0, -1, 0), () -> x.narrowed(0, 0, 2), () -> x.narrowed(0, 0, -1),
            () -> x.narrowed(LEAST, MOST, LEAST));
        due("no box", NO, told("p1;").narrowed(0, 0, 0));
        ControlSigns y = told("p0 1;b0 1;");
        due("ends at 64", 0, y.narrowed(20, 0, 0));
        ControlSigns w = told("p0 1-1 0 3;b-3 3;");
        due("of several the lowest, UPPER", -93, w.narrowed(3, 1, 0));
        due("of several the lowest, UPPER, lower", 256, w.narrowed(3, 1, 1));
        due("of several the lowest, LOWER", -9, w.narrowed(3, 0, 0));
        due("of several the lowest, LOWER, lower", 4, w.narrowed(3, 0, 1));
        ControlSigns v = told("p0-1;b0 1;");
        due("the last number of a row counts", -1, v.narrowed(0, 0, 0));
        ControlSigns z = told("p1-6 9;b0 1;");
        due("ends earlier", z.narrowed(20, 0, 0), z.narrowed(19, 0, 0));
        due("ends earlier, UPPER", 1, z.narrowed(20, 1, 0));
        due("ends earlier, UPPER, lower", 4096, z.narrowed(20, 1, 1));
    }

    // ---- wishes

    private static void sure() {
        promise = 23;
        ControlSigns x = told("p0 0 1;p-1 1;b-2 2;b0 1;");
        due("no wishes: all is held", 64, x.sure(0));
        due("none broken", 0, x.sure(1));
        due("none doubtful", 0, x.sure(2));
        x.wishes(0, 1);
        due("held", 62, x.sure(0));
        due("broken", 0, x.sure(1));
        due("doubtful", 2, x.sure(2));
        x.wishes(0, -1);
        due("held", 0, x.sure(0));
        due("broken", 62, x.sure(1));
        x.wishes(0, 0);
        x.wishes(1, -1);
        due("below, held", 47, x.sure(0));
        due("below, broken", 15, x.sure(1));
        due("below, doubtful", 2, x.sure(2));
        x.wishes(0, 1);
        due("both", 45, x.sure(0));
        due("both, broken", 15, x.sure(1));
        due("both, doubtful", 4, x.sure(2));
        x.takes(0, 1);
        due("of the box that is taken", 0, x.sure(1));
        dueAll("bad", BAD, () -> x.sure(3), () -> x.sure(-1), () -> x.sure(LEAST), () -> x.sure(MOST));
        ControlSigns y = told("p0 1;b0 1;");
        y.wishes(0, 1);
        due("node 64 is doubtful", 1, y.sure(2));
        due("the others are held", 63, y.sure(0));
        due("no polynomials, but a box", 64, told("b0 1;").sure(0));
        due("no box", STATE, told("p1;").sure(0));
        due("BAD goes ahead of STATE", BAD, told("p1;").sure(3));
    }

    private static void first() {
        promise = 24;
        ControlSigns x = told("p0 0 1;p-1 1;b-2 2;b2 3;");
        due("no wishes", 1, x.first());
        x.wishes(0, 1);
        due("the square", 4, x.first());
        x.wishes(1, 1);
        due("both", 15, x.first());
        x.wishes(0, -1);
        due("none", NONE, x.first());
        ControlSigns y = told("p-49 50;b0 1;");
        y.wishes(0, 1);
        due("the last node", 127, y.first());
        y.coefs(0, 0, -50);
        y.wishes(0, -1);
        due("but for the last node", 2, y.first());
        x.wishes(0, 1);
        x.takes(1, 1);
        due("in the other box", 1, x.first());
        due("no polynomials, but a box", 1, told("b0 1;").first());
        due("no box", STATE, told("p1;").first());
    }

    private static void wish() {
        promise = 25;
        ControlSigns x = told("p1;p2;");
        due("0 at first", 0, x.wish(0));
        x.wishes(1, -1);
        due("of the second", -1, x.wish(1));
        due("of the first", 0, x.wish(0));
        dueAll("no such", NO, () -> x.wish(2), () -> x.wish(-1), () -> x.wish(LEAST), () -> x.wish(MOST));
    }

    // ---- which polynomial

    private static void sees() {
        promise = 26;
        ControlSigns x = new ControlSigns();
        dueAll("bad", BAD, () -> x.sees(6, 0), () -> x.sees(-6, 0), () -> x.sees(0, 2), () -> x.sees(0, -2),
            () -> x.sees(LEAST, MOST));
        due("one", 1, x.sees(-5, -1));
        due("two", 2, x.sees(5, 1));
        due("the same again", 3, x.sees(5, 1));
        due("another sign there", 4, x.sees(5, 0));
        due("five", 5, x.sees(0, 0));
        due("six", 6, x.sees(1, 0));
        due("full", FULL, x.sees(1, 0));
        due("BAD goes ahead of FULL", BAD, x.sees(1, 2));
        due("how much", 6, x.count(5));
    }

    private static void forget() {
        promise = 27;
        ControlSigns x = told("p1;");
        due("nothing", 0, x.forget());
        x.sees(0, -1);
        x.sees(1, -1);
        due("two", 2, x.forget());
        due("none now", 0, x.count(5));
        due("all again", 1, x.unseen());
        due("from the beginning", 1, x.sees(0, 1));
    }

    private static void unseen() {
        promise = 28;
        ControlSigns x = told("p0 1;p0 0 1;p50 50 50 50 50 50;");
        due("nothing seen", 7, x.unseen());
        x.sees(0, 0);
        due("0 at 0", 3, x.unseen());
        x.sees(-1, 1);
        due("above 0 at -1", 2, x.unseen());
        x.sees(-1, -1);
        due("both can't be", 0, x.unseen());
        x.forget();
        x.sees(-5, -1);
        due("below 0 at -5", 5, x.unseen());
        x.coefs(0, 1, -1);
        due("as they are now", 4, x.unseen());
    }

    // ---- images

    private static void keep() {
        promise = 29;
        ControlSigns x = told("p1;p2;b0 1;");
        due("polynomials", 2, x.keep(0));
        due("polynomials", 2, x.keep(1));
        due("again", 2, x.keep(1));
        dueAll("bad", BAD, () -> x.keep(2), () -> x.keep(-1), () -> x.keep(LEAST), () -> x.keep(MOST));
        x.coefs(0, 0, 9);
        due("what was done stays so", 2, x.keep(0));
        due("it can be undone yet", 0, x.undo());
        due("none", 0, new ControlSigns().keep(0));
    }

    private static void back() {
        promise = 30;
        ControlSigns x = told("p1 2;p2;b0 1;b1 2;");
        due("none was kept", STATE, x.back(0));
        x.wishes(1, 1);
        x.keep(0);
        x.coefs(0, 1, 9);
        x.ends(1, 3, 4);
        x.wishes(1, -1);
        x.wishes(0, 1);
        x.keep(1);
        x.takes(1, 1);
        x.sees(0, 1);
        x.type('s');
        due("polynomials", 2, x.back(0));
        due("coefficient", 2, x.coef(0, 1));
        due("end", 1, x.box(1, 0));
        due("end", 2, x.box(1, 1));
        due("wish", 1, x.wish(1));
        due("wish", 0, x.wish(0));
        due("nothing can be undone", 0, x.count(7));
        due("nothing can be undone", STATE, x.undo());
        due("taken stays", 1, x.count(2));
        due("taken stays", 1, x.count(3));
        due("seen stays", 1, x.count(5));
        due("the text stays", 1, x.count(6));
        due("the other image", 2, x.back(1));
        due("coefficient", 9, x.coef(0, 1));
        due("wish", -1, x.wish(1));
        x.coefs(0, 1, 3);
        due("an image is kept as it was", 2, x.back(1));
        due("coefficient", 9, x.coef(0, 1));
        dueAll("bad", BAD, () -> x.back(2), () -> x.back(-1), () -> x.back(LEAST), () -> x.back(MOST));
    }

    private static void count() {
        promise = 31;
        ControlSigns x = told("p1 0 0;p2 3 4 5 6 0;b0 1;b1 2;b2 3;");
        x.takes(1, 2);
        x.sees(1, 1);
        x.sees(2, 1);
        x.wishes(0, 1);
        write(x, "s00");
        long[] want = {2, 3, 1, 2, 5, 2, 3, 1};
        for (int what = 0; what < want.length; what++) {
            due("count " + what, want[what], x.count(what));
        }
        x.takes(0, 0);
        due("n with 0s behind", 2, x.count(4));
        dueAll("bad", BAD, () -> x.count(8), () -> x.count(-1), () -> x.count(LEAST), () -> x.count(MOST));
        due("no polynomial, no n", NONE, told("b0 1;").count(4));
        due("n without a box", 1, told("p1 2;").count(4));
    }
}
