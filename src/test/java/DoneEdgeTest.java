/** Edges of what is TAKEN, told of and DONE: promises 5 to 11, and 25. */
public final class DoneEdgeTest extends Edges {
    private static final String THREE = "p1 2 3 4 5-6;p7;p8 9;b0 1;b1 2;b-5 5;";

    public static void main(String[] args) {
        takes();
        takesRefused();
        coef();
        box();
        coefsTaken();
        coefsBad();
        coefsState();
        endsTaken();
        endsBad();
        endsState();
        wishesTaken();
        wishesBad();
        wishesState();
        wish();
        undoNone();
        undoKinds();
        undoTen();
        undoRefused();
        undoLeaves();
        finish();
    }

    private static ControlSigns three() {
        return told(THREE);
    }

    // ---- promises 5 to 7

    private static void takes() {
        by("TAKEN are a POLYNOMIAL and a BOX: 1.");
        ControlSigns x = three();
        for (int p = 0; p < 3; p++) {
            for (int box = 0; box < 3; box++) {
                due("takes(" + p + ", " + box + ")", 1, x.takes(p, box));
                due("the POLYNOMIAL", p, x.count(2));
                due("the BOX", box, x.count(3));
            }
        }
        due("what is TAKEN already", 1, x.takes(2, 2));
        due("value(1, 0, 0)", 8 - 5 * 9, x.value(1, 0, 0));
        due("end(1, 1, 0)", 5, x.end(1, 1, 0));
    }

    private static ControlSigns threeTaken() {
        ControlSigns x = three();
        x.takes(1, 2);
        return x;
    }

    private static void takesRefused() {
        by("Promise 5: BAD: there is no such POLYNOMIAL");
        for (int p : new int[] {-1, 3, 4, 256, LEAST, MOST}) {
            refused("takes(" + p + ", 0)", BAD, DoneEdgeTest::threeTaken, x -> x.takes(p, 0));
        }
        by("Promise 5: BAD: there is no such BOX");
        for (int box : new int[] {-1, 3, 4, 256, LEAST, MOST}) {
            refused("takes(0, " + box + ")", BAD, DoneEdgeTest::threeTaken, x -> x.takes(0, box));
        }
        by("Promise 5: BAD: as many as there are, not as many as there may be");
        ControlSigns y = told("p1;p2;b0 1;");
        due("takes(1, 0)", 1, y.takes(1, 0));
        due("takes(2, 0)", BAD, y.takes(2, 0));
        due("takes(0, 1)", BAD, y.takes(0, 1));
        due("the POLYNOMIAL stays", 1, y.count(2));
        due("without BOXES", BAD, told("p1;").takes(0, 0));
        due("without POLYNOMIALS", BAD, told("b0 1;").takes(0, 0));
        due("with nothing", BAD, new ControlSigns().takes(0, 0));
    }

    private static void coef() {
        by("A COEFFICIENT of a POLYNOMIAL. NO: BAD.");
        ControlSigns x = three();
        long[] first = {1, 2, 3, 4, 5, -6};
        for (int k = 0; k < 6; k++) {
            due("coef(0, " + k + ")", first[k], x.coef(0, k));
        }
        due("coef(1, 0)", 7, x.coef(1, 0));
        due("coef(1, 1): it has one", NO, x.coef(1, 1));
        due("coef(2, 1)", 9, x.coef(2, 1));
        due("coef(2, 2): it has two", NO, x.coef(2, 2));
        for (int k : new int[] {-1, 6, 7, 256, LEAST, MOST}) {
            due("coef(0, " + k + ")", NO, x.coef(0, k));
        }
        for (int p : new int[] {-1, 3, 4, 256, LEAST, MOST}) {
            due("coef(" + p + ", 0)", NO, x.coef(p, 0));
        }
        due("of a new object", NO, new ControlSigns().coef(0, 0));
    }

    private static void box() {
        by("Of a BOX: A (what = 0), B (1). NO: BAD.");
        ControlSigns x = three();
        long[] ends = {0, 1, 1, 2, -5, 5};
        for (int k = 0; k < 6; k++) {
            due("box(" + k / 2 + ", " + k % 2 + ")", ends[k], x.box(k / 2, k % 2));
        }
        for (int what : new int[] {-1, 2, 256, LEAST, MOST}) {
            due("box(0, " + what + ")", NO, x.box(0, what));
        }
        for (int box : new int[] {-1, 3, 4, 256, LEAST, MOST}) {
            due("box(" + box + ", 0)", NO, x.box(box, 0));
        }
        due("box(1, 0) of one BOX", NO, told("b0 1;").box(1, 0));
        due("of a new object", NO, new ControlSigns().box(0, 0));
    }

    // ---- promise 8

    private static void coefsTaken() {
        by("A COEFFICIENT (-50 .. 50) is another one: 1.");
        ControlSigns x = three();
        for (int v : new int[] {50, -50, 49, -49, 0, 1, -1}) {
            due("coefs(0, 0, " + v + ")", 1, x.coefs(0, 0, v));
            due("coef(0, 0)", v, x.coef(0, 0));
        }
        due("the last COEFFICIENT", 1, x.coefs(0, 5, 50));
        due("coef(0, 5)", 50, x.coef(0, 5));
        due("the last POLYNOMIAL", 1, x.coefs(2, 1, -50));
        due("coef(2, 1)", -50, x.coef(2, 1));
        due("coef(0, 4) stays", 5, x.coef(0, 4));
        due("coef(1, 0) stays", 7, x.coef(1, 0));
        due("coef(2, 0) stays", 8, x.coef(2, 0));
        x.takes(2, 0);
        due("what hangs on it", -42, x.value(1, 1, 0));
    }

    private static void coefsBad() {
        by("Promise 8: BAD: a COEFFICIENT (-50 .. 50)");
        for (int v : new int[] {-51, 51, 99, 256, 65536, LEAST, LEAST + 1, MOST}) {
            refused("coefs(0, 0, " + v + ")", BAD, Edges::rich, x -> x.coefs(0, 0, v));
        }
        by("Promise 8: BAD: there is no such COEFFICIENT");
        for (int k : new int[] {-1, 3, 5, 6, LEAST, MOST}) {
            refused("coefs(0, " + k + ", 1)", BAD, Edges::rich, x -> x.coefs(0, k, 1));
        }
        refused("coefs(1, 1, 1)", BAD, Edges::rich, x -> x.coefs(1, 1, 1));
        refused("coefs(0, 6, 1) of six", BAD, DoneEdgeTest::three, x -> x.coefs(0, 6, 1));
        by("Promise 8: BAD: there is no such POLYNOMIAL");
        for (int p : new int[] {-1, 3, 4, LEAST, MOST}) {
            refused("coefs(" + p + ", 0, 1)", BAD, Edges::rich, x -> x.coefs(p, 0, 1));
        }
        refused("coefs(1, 0, 1) of one", BAD, () -> told("p1;b0 1;"), x -> x.coefs(1, 0, 1));
        due("coefs(0, 0, 0) of a new object", BAD, new ControlSigns().coefs(0, 0, 0));
    }

    private static void coefsState() {
        by("Promise 8: STATE: it is that.");
        refused("coefs(0, 0, 6)", STATE, Edges::rich, x -> x.coefs(0, 0, 6));
        refused("coefs(1, 0, -50)", STATE, Edges::rich, x -> x.coefs(1, 0, -50));
        ControlSigns x = told("p0;b0 1;");
        due("0 is 0", STATE, x.coefs(0, 0, 0));
        due("another one", 1, x.coefs(0, 0, 1));
        due("that again", STATE, x.coefs(0, 0, 1));
        due("as it was first", 1, x.coefs(0, 0, 0));
    }

    // ---- promise 9

    private static void endsTaken() {
        by("A BOX has other ends: 1.");
        int[][] pairs = {{-5, 5}, {-5, -4}, {4, 5}, {0, 1}, {-1, 0}, {-5, 4}, {-4, 5}};
        ControlSigns x = told("p0 1;b2 3;b-2-1;");
        for (int[] pair : pairs) {
            due("ends(0, " + pair[0] + ", " + pair[1] + ")", 1, x.ends(0, pair[0], pair[1]));
            due("A", pair[0], x.box(0, 0));
            due("B", pair[1], x.box(0, 1));
        }
        due("the other BOX stays, A", -2, x.box(1, 0));
        due("the other BOX stays, B", -1, x.box(1, 1));
        due("what hangs on it", -4, x.value(1, 0, 0));
        due("the last BOX", 1, x.ends(1, 0, 5));
        ControlSigns y = three();
        due("the third BOX", 1, y.ends(2, -5, 4));
        due("its B", 4, y.box(2, 1));
    }

    private static void endsBad() {
        by("Promise 9: BAD: A, B (-5 .. 5)");
        int[][] far = {{-6, 0}, {0, 6}, {-6, 6}, {5, 6}, {-6, -5}, {LEAST, 0}, {0, MOST}, {LEAST, MOST}, {-256, 256}};
        for (int[] pair : far) {
            refused("ends(0, " + pair[0] + ", " + pair[1] + ")", BAD, Edges::rich, x -> x.ends(0, pair[0], pair[1]));
        }
        by("Promise 9: BAD: A below B");
        int[][] turned = {{5, 5}, {-5, -5}, {0, 0}, {1, 0}, {5, -5}, {5, 1}, {6, 6}, {MOST, LEAST}};
        for (int[] pair : turned) {
            refused("ends(0, " + pair[0] + ", " + pair[1] + ")", BAD, Edges::rich, x -> x.ends(0, pair[0], pair[1]));
        }
        by("Promise 9: BAD: there is no such BOX");
        for (int box : new int[] {-1, 2, 3, LEAST, MOST}) {
            refused("ends(" + box + ", 0, 1)", BAD, Edges::rich, x -> x.ends(box, 0, 1));
        }
        refused("ends(3, 0, 1) of three", BAD, DoneEdgeTest::three, x -> x.ends(3, 0, 1));
        due("ends(0, 0, 1) of a new object", BAD, new ControlSigns().ends(0, 0, 1));
    }

    private static void endsState() {
        by("Promise 9: STATE: it has these.");
        refused("ends(0, 1, 5)", STATE, Edges::rich, x -> x.ends(0, 1, 5));
        ControlSigns x = told("b0 1;b1 2;");
        due("as told", STATE, x.ends(0, 0, 1));
        due("A alone is another one", 1, x.ends(0, -1, 1));
        due("B alone is another one", 1, x.ends(0, -1, 2));
        due("these again", STATE, x.ends(0, -1, 2));
        due("those of the other BOX are others", 1, x.ends(0, 1, 2));
    }

    // ---- promises 10 and 25

    private static void wishesTaken() {
        by("A WISH of a POLYNOMIAL (-1, 0, 1): 1.");
        ControlSigns x = three();
        for (int sign : new int[] {1, -1, 0, -1, 1, 0}) {
            due("wishes(0, " + sign + ")", 1, x.wishes(0, sign));
            due("wish(0)", sign, x.wish(0));
        }
        due("of the last POLYNOMIAL", 1, x.wishes(2, 1));
        due("wish(2)", 1, x.wish(2));
        due("wish(1) stays", 0, x.wish(1));
    }

    private static void wishesBad() {
        by("Promise 10: BAD: a WISH (-1, 0, 1)");
        for (int sign : new int[] {-2, 2, 3, 255, 256, LEAST, MOST}) {
            refused("wishes(0, " + sign + ")", BAD, Edges::rich, x -> x.wishes(0, sign));
        }
        by("Promise 10: BAD: there is no such POLYNOMIAL");
        for (int p : new int[] {-1, 3, 4, LEAST, MOST}) {
            refused("wishes(" + p + ", 1)", BAD, Edges::rich, x -> x.wishes(p, 1));
        }
        refused("wishes(1, 1) of one", BAD, () -> told("p1;b0 1;"), x -> x.wishes(1, 1));
        due("wishes(0, 0) of a new object", BAD, new ControlSigns().wishes(0, 0));
    }

    private static void wishesState() {
        by("Promise 10: STATE: it is that.");
        refused("wishes(0, -1)", STATE, Edges::rich, x -> x.wishes(0, -1));
        refused("wishes(1, 1)", STATE, Edges::rich, x -> x.wishes(1, 1));
        by("a WISH (0 at first)");
        refused("wishes(2, 0)", STATE, DoneEdgeTest::three, x -> x.wishes(2, 0));
    }

    private static void wish() {
        by("The WISH of a POLYNOMIAL. NO: BAD.");
        ControlSigns x = three();
        due("wish(0), 0 at first", 0, x.wish(0));
        due("wish(2), 0 at first", 0, x.wish(2));
        for (int p : new int[] {-1, 3, 4, 256, LEAST, MOST}) {
            due("wish(" + p + ")", NO, x.wish(p));
        }
        due("wish(1) of one", NO, told("p1;").wish(1));
        due("wish(0) of BOXES alone", NO, told("b0 1;").wish(0));
    }

    // ---- promise 11

    private static void undoNone() {
        by("Promise 11: STATE: none.");
        due("of a new object", STATE, new ControlSigns().undo());
        refused("undo() of nothing done", STATE, DoneEdgeTest::three, x -> x.undo());
        ControlSigns x = three();
        x.coefs(0, 0, 9);
        due("the only one", 0, x.undo());
        due("no more", STATE, x.undo());
        due("coef(0, 0)", 1, x.coef(0, 0));
    }

    private static void undoKinds() {
        by("UNDONE: the latest coefs(), ends(), wishes()");
        ControlSigns x = three();
        x.coefs(0, 5, 6);
        x.ends(2, -4, 4);
        x.wishes(1, -1);
        x.coefs(0, 5, 7);
        x.ends(2, 0, 3);
        x.wishes(1, 1);
        due("what may be UNDONE", 6, x.count(7));
        due("wishes()", 5, x.undo());
        due("wish(1)", -1, x.wish(1));
        due("ends()", 4, x.undo());
        due("A", -4, x.box(2, 0));
        due("B", 4, x.box(2, 1));
        due("coefs()", 3, x.undo());
        due("coef(0, 5)", 6, x.coef(0, 5));
        due("wishes()", 2, x.undo());
        due("wish(1)", 0, x.wish(1));
        due("ends()", 1, x.undo());
        due("A", -5, x.box(2, 0));
        due("B", 5, x.box(2, 1));
        due("coef(0, 5) yet", 6, x.coef(0, 5));
        due("coefs()", 0, x.undo());
        due("coef(0, 5)", -6, x.coef(0, 5));
        due("what may be UNDONE", 0, x.count(7));
    }

    private static void undoTen() {
        by("10 are known, older ones are lost");
        for (int done = 9; done <= 12; done++) {
            ControlSigns x = three();
            for (int v = 1; v <= done; v++) {
                x.coefs(1, 0, 10 + v);
            }
            int known = Math.min(done, 10);
            due("what may be UNDONE of " + done, known, x.count(7));
            for (int left = known - 1; left >= 0; left--) {
                due("undo() of " + done, left, x.undo());
            }
            due("undo() then", STATE, x.undo());
            due("coef(1, 0) of " + done, done <= 10 ? 7 : 10 + done - 10, x.coef(1, 0));
        }
        by("10 are known: of mixed kinds, some UNDONE between");
        ControlSigns x = three();
        x.wishes(0, 1);
        x.ends(0, 0, 2);
        for (int v = 1; v <= 8; v++) {
            x.coefs(0, 0, 20 + v);
        }
        due("three are UNDONE", 9, x.undo());
        due("three are UNDONE", 8, x.undo());
        due("three are UNDONE", 7, x.undo());
        for (int v = 1; v <= 4; v++) {
            x.coefs(0, 0, 30 + v);
        }
        due("ten again", 10, x.count(7));
        for (int left = 9; left >= 1; left--) {
            due("undo()", left, x.undo());
        }
        due("coef(0, 0)", 1, x.coef(0, 0));
        due("the last known is ends()", 2, x.box(0, 1));
        due("undo()", 0, x.undo());
        due("B", 1, x.box(0, 1));
        due("the WISH is lost", STATE, x.undo());
        due("wish(0)", 1, x.wish(0));
    }

    private static void undoRefused() {
        by("UNDONE: the latest that was not refused");
        ControlSigns x = three();
        x.coefs(0, 0, 9);
        x.coefs(0, 0, 9);
        x.coefs(0, 0, 51);
        x.coefs(3, 0, 1);
        x.ends(0, 0, 1);
        x.ends(0, 1, 0);
        x.ends(3, 0, 1);
        x.wishes(0, 0);
        x.wishes(0, 2);
        x.wishes(3, 1);
        due("what may be UNDONE", 1, x.count(7));
        due("undo()", 0, x.undo());
        due("coef(0, 0)", 1, x.coef(0, 0));

        by("UNDONE: undo() itself is not UNDONE");
        ControlSigns y = three();
        y.coefs(0, 0, 9);
        y.coefs(0, 0, 10);
        y.undo();
        due("undo()", 0, y.undo());
        due("coef(0, 0)", 1, y.coef(0, 0));
    }

    private static void undoLeaves() {
        by("UNDONE: coefs(), ends(), wishes() alone");
        ControlSigns x = three();
        x.coefs(0, 0, 9);
        x.takes(2, 1);
        x.sees(1, 1);
        x.type('s');
        x.keep(0);
        due("what may be UNDONE", 1, x.count(7));
        due("undo()", 0, x.undo());
        due("the POLYNOMIAL that is TAKEN stays", 2, x.count(2));
        due("the BOX that is TAKEN stays", 1, x.count(3));
        due("SEEN stays", 1, x.count(5));
        due("THE TEXT stays", 1, x.count(6));
        due("the IMAGE stays", 3, x.back(0));
        due("coef(0, 0) by the IMAGE", 9, x.coef(0, 0));
    }
}
