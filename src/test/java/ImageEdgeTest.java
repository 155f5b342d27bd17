/** Edges of IMAGES, and of what is counted: promises 29 to 31. */
public final class ImageEdgeTest extends Edges {
    private static final String TWO = "p1 2;p3;b0 1;b1 2;";

    public static void main(String[] args) {
        keep();
        keepRefused();
        keepLeaves();
        back();
        backState();
        backRefused();
        backLeaves();
        backUndone();
        imagesApart();
        counts();
        countNone();
        countRefused();
        finish();
    }

    // ---- promise 29

    private static void keep() {
        by("An IMAGE is kept: POLYNOMIALS.");
        String[] texts = {"", "p1;", "p1;p2;", "p1;p2;p3;", "b0 1;b0 1;b0 1;"};
        int[] polynomials = {0, 1, 2, 3, 0};
        for (int k = 0; k < texts.length; k++) {
            ControlSigns x = told(texts[k]);
            due("keep(0) of '" + texts[k] + "'", polynomials[k], x.keep(0));
            due("keep(1) of '" + texts[k] + "'", polynomials[k], x.keep(1));
            due("keep(1) again", polynomials[k], x.keep(1));
        }
        due("keep(0) of a new object", 0, new ControlSigns().keep(0));
        ControlSigns x = told(TWO);
        x.keep(0);
        x.coefs(0, 0, 9);
        x.keep(0);
        x.coefs(0, 0, 10);
        x.back(0);
        due("the later one is kept", 9, x.coef(0, 0));
    }

    private static void keepRefused() {
        by("Promise 29: BAD.");
        for (int image : new int[] {-1, 2, 3, 31, 32, 33, 256, LEAST, MOST}) {
            refused("keep(" + image + ")", BAD, Edges::rich, x -> x.keep(image));
            refused("keep(" + image + "), none kept", BAD, () -> told(TWO), x -> x.keep(image));
        }
    }

    private static void keepLeaves() {
        by("Promise 29: an IMAGE is kept, and nothing else changes");
        ControlSigns x = told(TWO);
        x.coefs(0, 0, 9);
        x.wishes(0, 1);
        x.keep(0);
        due("what may be UNDONE", 2, x.count(7));
        due("undo()", 1, x.undo());
        due("undo()", 0, x.undo());
        due("coef(0, 0)", 1, x.coef(0, 0));
    }

    // ---- promise 30

    private static void back() {
        by("All of that becomes as an IMAGE has it: POLYNOMIALS.");
        ControlSigns x = told(TWO);
        x.wishes(1, 1);
        x.keep(0);
        x.coefs(0, 1, 50);
        x.coefs(1, 0, -50);
        x.ends(0, -5, 5);
        x.ends(1, 4, 5);
        x.wishes(0, 1);
        x.wishes(1, -1);
        due("back(0)", 2, x.back(0));
        due("coef(0, 0)", 1, x.coef(0, 0));
        due("coef(0, 1)", 2, x.coef(0, 1));
        due("coef(1, 0)", 3, x.coef(1, 0));
        due("box(0, 0)", 0, x.box(0, 0));
        due("box(0, 1)", 1, x.box(0, 1));
        due("box(1, 0)", 1, x.box(1, 0));
        due("box(1, 1)", 2, x.box(1, 1));
        due("wish(0)", 0, x.wish(0));
        due("wish(1)", 1, x.wish(1));
        due("n", 1, x.count(4));
        due("what hangs on it", 3, x.value(1, 1, 0));
        x.coefs(0, 0, 7);
        due("back(0) again: the IMAGE stays", 2, x.back(0));
        due("coef(0, 0)", 1, x.coef(0, 0));
        ControlSigns y = new ControlSigns();
        y.keep(1);
        due("back(1) of nothing", 0, y.back(1));
        ControlSigns z = told("p1;p2;p3;");
        z.keep(1);
        due("back(1) of three", 3, z.back(1));
    }

    private static void backState() {
        by("Promise 30: STATE: none was kept.");
        due("back(0) of a new object", STATE, new ControlSigns().back(0));
        due("back(1) of a new object", STATE, new ControlSigns().back(1));
        refused("back(0), the other one is kept", STATE, () -> keeping(1), x -> x.back(0));
        refused("back(1), the other one is kept", STATE, () -> keeping(0), x -> x.back(1));
    }

    private static ControlSigns keeping(int image) {
        ControlSigns x = told(TWO);
        x.coefs(0, 0, 9);
        x.keep(image);
        x.ends(0, 2, 3);
        return x;
    }

    private static void backRefused() {
        by("Promise 30: BAD");
        for (int image : new int[] {-1, 2, 3, 31, 32, 33, -32, 256, LEAST, MOST}) {
            refused("back(" + image + ")", BAD, Edges::rich, x -> x.back(image));
            due("back(" + image + "), none kept: BAD is first", BAD, new ControlSigns().back(image));
        }
    }

    private static void backLeaves() {
        by("IMAGES keep COEFFICIENTS, ends, WISHES; nothing else");
        ControlSigns x = told(TWO);
        x.takes(1, 0);
        x.sees(0, 1);
        write(x, "s00");
        x.keep(0);
        x.takes(0, 1);
        x.sees(1, -1);
        x.type('p');
        x.back(0);
        due("the POLYNOMIAL that is TAKEN stays", 0, x.count(2));
        due("the BOX that is TAKEN stays", 1, x.count(3));
        due("SEEN stays", 2, x.count(5));
        due("unseen()", 0, x.unseen());
        due("THE TEXT stays", 4, x.count(6));
        due("the other IMAGE is none yet", STATE, x.back(1));
    }

    private static void backUndone() {
        by("(nothing can be UNDONE behind back())");
        ControlSigns x = told(TWO);
        x.coefs(0, 0, 9);
        x.keep(0);
        due("what may be UNDONE", 1, x.count(7));
        x.back(0);
        due("what may be UNDONE behind back()", 0, x.count(7));
        due("undo()", STATE, x.undo());
        due("coef(0, 0) stays", 9, x.coef(0, 0));
        x.coefs(0, 0, 10);
        due("what was DONE since", 0, x.undo());
        due("coef(0, 0)", 9, x.coef(0, 0));
        refused("undo() behind back()", STATE, ImageEdgeTest::returned, y -> y.undo());
        by("Promise 30: a call that is refused leaves what may be UNDONE");
        ControlSigns y = keeping(1);
        y.back(0);
        y.back(2);
        due("what may be UNDONE", 2, y.count(7));
    }

    private static ControlSigns returned() {
        ControlSigns x = keeping(0);
        x.back(0);
        return x;
    }

    private static void imagesApart() {
        by("IMAGES 0, 1");
        ControlSigns x = told(TWO);
        x.keep(0);
        x.coefs(0, 0, 9);
        x.keep(1);
        x.coefs(0, 0, 10);
        due("back(0)", 2, x.back(0));
        due("coef(0, 0)", 1, x.coef(0, 0));
        due("back(1)", 2, x.back(1));
        due("coef(0, 0)", 9, x.coef(0, 0));
        x.undo();
        x.coefs(0, 0, 11);
        x.keep(0);
        x.back(1);
        due("keep(0) leaves the other", 9, x.coef(0, 0));
        x.back(0);
        due("back(0)", 11, x.coef(0, 0));
        by("(Read anew: IMAGES are gone.)");
        write(x, "p7;b0 1;");
        x.house();
        due("back(0)", STATE, x.back(0));
        due("back(1)", STATE, x.back(1));
        due("coef(0, 0)", 7, x.coef(0, 0));
        x.keep(1);
        due("one is kept again", 1, x.back(1));
        due("the other is not", STATE, x.back(0));
    }

    // ---- promise 31

    private static void counts() {
        by("0 POLYNOMIALS, 1 BOXES, 2, 3 the POLYNOMIAL, the BOX that is TAKEN, 4 n of that POLYNOMIAL, 5 SEEN, "
            + "6 letters of THE TEXT, 7 how many may be UNDONE.");
        ControlSigns x = told("p1;p1 2 3 4 5 6;b0 1;b1 2;b2 3;");
        x.takes(1, 2);
        for (int k = 0; k < 6; k++) {
            x.sees(k, 1);
        }
        for (int v = 10; v < 21; v++) {
            x.coefs(0, 0, v);
        }
        write(x, "x".repeat(120));
        int[] want = {2, 3, 1, 2, 5, 6, 120, 10};
        for (int what = 0; what < 8; what++) {
            due("count(" + what + ")", want[what], x.count(what));
        }
        x.takes(0, 1);
        due("the other n", 0, x.count(4));
        int[] none = {0, 0, 0, 0, NONE, 0, 0, 0};
        for (int what = 0; what < 8; what++) {
            due("count(" + what + ") of a new object", none[what], new ControlSigns().count(what));
        }
    }

    private static void countNone() {
        by("4 n of that POLYNOMIAL (NONE)");
        due("without POLYNOMIALS", NONE, told("b0 1;").count(4));
        due("with nothing", NONE, new ControlSigns().count(4));
        due("without BOXES", 2, told("p1 0 0;").count(4));
    }

    private static void countRefused() {
        by("Promise 31: BAD.");
        for (int what : new int[] {-1, 8, 9, 256, LEAST, LEAST + 1, MOST}) {
            refused("count(" + what + ")", BAD, Edges::rich, x -> x.count(what));
            due("count(" + what + ") of a new object", BAD, new ControlSigns().count(what));
        }
    }
}
