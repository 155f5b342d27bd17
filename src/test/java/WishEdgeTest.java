/** Edges of WISHES over a BOX, and of what is SEEN: promises 23, 24 and 26 to 28. */
public final class WishEdgeTest extends Edges {
    public static void main(String[] args) {
        noWishes();
        aboveNought();
        notRaised();
        lastHalves();
        several();
        takenBox();
        sureRefused();
        first();
        firstRefused();
        sees();
        seesFull();
        seesRefused();
        forget();
        unseen();
        unseenAtNought();
        unseenFar();
        finish();
    }

    /** HELD, BROKEN, DOUBTFUL 64ths. */
    private static void dueShares(String what, int held, int broken, int doubtful, ControlSigns x) {
        due(what + ": HELD", held, x.sure(0));
        due(what + ": BROKEN", broken, x.sure(1));
        due(what + ": DOUBTFUL", doubtful, x.sure(2));
    }

    /** An object with the same WISH of each POLYNOMIAL. */
    private static ControlSigns wishing(String text, int sign) {
        ControlSigns x = told(text);
        for (int p = 0; p < x.count(0); p++) {
            x.wishes(p, sign);
        }
        return x;
    }

    // ---- promise 23

    private static void noWishes() {
        by("HELD: a NODE over which, for each POLYNOMIAL with a WISH: without WISHES all is HELD");
        dueShares("no WISHES", 64, 0, 0, told("p-1;p0;p0 1;b-1 1;"));
        dueShares("no POLYNOMIALS", 64, 0, 0, told("b0 1;"));
        ControlSigns x = wishing("p-1;b0 1;", 1);
        dueShares("a WISH", 0, 64, 0, x);
        x.wishes(0, 0);
        dueShares("a WISH that is 0 again", 64, 0, 0, x);
    }

    private static void aboveNought() {
        by("HELD: with a WISH 1 (-1), all CONTROL is above (below) 0. BROKEN: all is below (above) 0.");
        dueShares("1, WISH 1", 64, 0, 0, wishing("p1;b0 1;", 1));
        dueShares("1, WISH -1", 0, 64, 0, wishing("p1;b0 1;", -1));
        dueShares("-1, WISH 1", 0, 64, 0, wishing("p-1;b0 1;", 1));
        dueShares("-1, WISH -1", 64, 0, 0, wishing("p-1;b0 1;", -1));
        by("HELD, BROKEN: 0 is neither above nor below 0");
        dueShares("0, WISH 1", 0, 0, 64, wishing("p0;b0 1;", 1));
        dueShares("0, WISH -1", 0, 0, 64, wishing("p0;b0 1;", -1));
        dueShares("0 at LO, WISH 1", 63, 0, 1, wishing("p0 1;b0 1;", 1));
        dueShares("0 at LO, WISH -1", 0, 63, 1, wishing("p0 1;b0 1;", -1));
        dueShares("0 at HI, WISH 1", 63, 0, 1, wishing("p0-1;b-1 0;", 1));
        dueShares("0 at HI, WISH -1", 0, 63, 1, wishing("p0-1;b-1 0;", -1));
        dueShares("0 at the middle, WISH 1", 31, 31, 2, wishing("p0 1;b-1 1;", 1));
    }

    private static void notRaised() {
        by("HELD, BROKEN: all CONTROL (not RAISED)");
        ControlSigns x = wishing("p1-2 2;b0 1;", 1);
        due("a number of NODE 1 is 0", 0, x.control(1, 0, 1, 0));
        due("first()", 2, x.first());
        dueShares("by its halves", 64, 0, 0, x);
        dueShares("by its halves, BROKEN", 0, 64, 0, wishing("p1-2 2;b0 1;", -1));
    }

    private static void lastHalves() {
        by("others by their halves, those of 64 and more are DOUBTFUL");
        dueShares("NODE 64 alone is HELD", 1, 62, 1, wishing("p1-7;b0 5;", 1));
        dueShares("NODE 127 alone is HELD", 1, 62, 1, wishing("p1 8;b-5 0;", 1));
        dueShares("NODE 64 alone is BROKEN", 62, 1, 1, wishing("p1-7;b0 5;", -1));
        dueShares("NODE 127 alone is BROKEN", 62, 1, 1, wishing("p1 8;b-5 0;", -1));
        dueShares("NODE 64 alone is DOUBTFUL", 63, 0, 1, wishing("p38 45 0 37 45;b-1 5;", 1));
        dueShares("NODE 127 alone is DOUBTFUL", 63, 0, 1, wishing("p38-45 0-37 45;b-5 1;", 1));
        dueShares("NODE 32 is halved, both halves are HELD", 0, 64, 0, wishing("p-1 13-44;b0 5;", 1));
        dueShares("NODE 63 is halved, both halves are HELD", 64, 0, 0, wishing("p-1-13-44;b-5 0;", -1));
        by("how many 64ths of the BOX are each: of a half, a quarter, ..");
        dueShares("a half is BROKEN", 31, 32, 1, wishing("p-17 33;b0 1;", 1));
        dueShares("a quarter is BROKEN", 47, 16, 1, wishing("p-9 35;b0 1;", 1));
        dueShares("a quarter is HELD", 16, 47, 1, wishing("p-9 35;b0 1;", -1));
    }

    private static void several() {
        by("HELD: for each POLYNOMIAL with a WISH");
        dueShares("three that are HELD", 64, 0, 0, wishing("p1;p2;p3;b0 1;", 1));
        dueShares("the first is DOUBTFUL", 0, 0, 64, wishing("p0;p2;p3;b0 1;", 1));
        dueShares("the third is DOUBTFUL", 0, 0, 64, wishing("p1;p2;p0;b0 1;", 1));
        by("BROKEN: over which for one of these");
        dueShares("the first is BROKEN", 0, 64, 0, wishing("p-1;p2;p3;b0 1;", 1));
        dueShares("the third is BROKEN", 0, 64, 0, wishing("p1;p2;p-3;b0 1;", 1));
        dueShares("DOUBTFUL, then BROKEN", 0, 64, 0, wishing("p0;p-1;b0 1;", 1));
        dueShares("BROKEN, then DOUBTFUL", 0, 64, 0, wishing("p-1;p0;b0 1;", 1));
        by("HELD, BROKEN: a POLYNOMIAL with a WISH 0 does not count");
        ControlSigns x = told("p1;p-1;p0;b0 1;");
        x.wishes(0, 1);
        dueShares("the first alone", 64, 0, 0, x);
        x.wishes(1, -1);
        dueShares("the first and the second", 64, 0, 0, x);
        x.takes(2, 0);
        dueShares("whichever is TAKEN", 64, 0, 0, x);
        x.wishes(2, 1);
        dueShares("all three", 0, 0, 64, x);
    }

    private static void takenBox() {
        by("Of the BOX that is TAKEN");
        ControlSigns x = wishing("p0 1;b-2-1;b1 2;b0 1;", 1);
        dueShares("BOX 0", 0, 64, 0, x);
        x.takes(0, 1);
        dueShares("BOX 1", 64, 0, 0, x);
        due("first() in BOX 1", 1, x.first());
        x.takes(0, 2);
        dueShares("BOX 2", 63, 0, 1, x);
        due("first() in BOX 2", 3, x.first());
        x.takes(0, 0);
        due("first() in BOX 0", NONE, x.first());
    }

    private static void sureRefused() {
        by("Promise 23: BAD");
        for (int what : new int[] {-1, 3, 4, 256, LEAST, MOST}) {
            refused("sure(" + what + ")", BAD, Edges::rich, x -> x.sure(what));
            due("sure(" + what + ") without BOXES: BAD is first", BAD, told("p1;").sure(what));
            due("sure(" + what + ") with nothing: BAD is first", BAD, new ControlSigns().sure(what));
        }
        by("Promise 23: STATE: there is no such BOX.");
        for (int what = 0; what < 3; what++) {
            due("sure(" + what + ") without BOXES", STATE, told("p1;").sure(what));
            due("sure(" + what + ") with nothing", STATE, new ControlSigns().sure(what));
        }
    }

    // ---- promise 24

    private static void first() {
        by("FIRST: the least number of a NODE that is HELD.");
        due("without WISHES", 1, told("p-1;b0 1;").first());
        due("without POLYNOMIALS", 1, told("b0 1;").first());
        due("NODE 3 ahead of NODE 4, which lies lower", 3, wishing("p33-37 10;b0 5;", 1).first());
        due("NODE 63", 63, wishing("p1 4;b-5 0;", 1).first());
        due("NODE 64", 64, wishing("p1-7;b0 5;", 1).first());
        due("NODE 126", 126, wishing("p0-1-6;b-4 0;", 1).first());
        due("NODE 127", 127, wishing("p1 8;b-5 0;", 1).first());
        due("for each POLYNOMIAL", 3, wishing("p0 1;p1;b0 1;", 1).first());
        by("FIRST: NONE.");
        due("all is BROKEN", NONE, wishing("p-1;b0 1;", 1).first());
        due("all is DOUBTFUL", NONE, wishing("p0;b0 1;", 1).first());
        due("each has a NODE, none is of both", NONE, wishing("p0 1;p0-1;b-1 1;", 1).first());
    }

    private static void firstRefused() {
        by("Promise 24: STATE: there is no such BOX.");
        due("without BOXES", STATE, told("p1;").first());
        due("with nothing", STATE, new ControlSigns().first());
        refused("first()", STATE, () -> told("p1;p2;"), x -> x.first());
    }

    // ---- promises 26 and 27

    private static void sees() {
        by("SEEN: a whole place x (-5 .. 5), the sign s (-1, 0, 1)");
        for (int from = -5; from <= 5; from += 2) {
            ControlSigns x = new ControlSigns();
            int many = 0;
            for (int place = from; place < from + 2 && place <= 5; place++) {
                for (int sign = -1; sign <= 1; sign++) {
                    many++;
                    due("sees(" + place + ", " + sign + ")", many, x.sees(place, sign));
                }
            }
        }
    }

    private static void seesFull() {
        by("SEEN (6 at most); FULL: 6.");
        ControlSigns x = told("p1;p-1;p0;");
        for (int k = 1; k <= 6; k++) {
            due("the same again, " + k, k, x.sees(3, 1));
        }
        due("the seventh", FULL, x.sees(3, 1));
        due("SEEN", 6, x.count(5));
        due("another one", FULL, x.sees(3, -1));
        due("unseen(): it did not come in", 1, x.unseen());
        refused("sees(0, -1) at 6", FULL, Edges::full, y -> y.sees(0, -1));
        due("forget()", 6, x.forget());
        due("there is room again", 1, x.sees(3, -1));
        due("unseen()", 2, x.unseen());
        by("the first of these: BAD, STATE, FULL (sees)");
        refused("sees(6, 1) at 6", BAD, Edges::full, y -> y.sees(6, 1));
        refused("sees(-6, 1) at 6", BAD, Edges::full, y -> y.sees(-6, 1));
        refused("sees(0, 2) at 6", BAD, Edges::full, y -> y.sees(0, 2));
    }

    private static void seesRefused() {
        by("Promise 26: BAD: a whole place x (-5 .. 5)");
        for (int place : new int[] {-6, 6, 7, 251, 256, LEAST, MOST}) {
            refused("sees(" + place + ", 1)", BAD, Edges::rich, x -> x.sees(place, 1));
        }
        by("Promise 26: BAD: the sign s (-1, 0, 1)");
        for (int sign : new int[] {-2, 2, 255, 256, LEAST, MOST}) {
            refused("sees(0, " + sign + ")", BAD, Edges::rich, x -> x.sees(0, sign));
        }
    }

    private static void forget() {
        by("Nothing is SEEN: how much was.");
        ControlSigns x = told("p1;p-1;");
        due("of nothing", 0, x.forget());
        x.sees(0, 1);
        due("of one", 1, x.forget());
        due("SEEN", 0, x.count(5));
        due("unseen(): all again", 3, x.unseen());
        due("again", 0, x.forget());
        due("of six", 6, full().forget());
        due("on a new object", 0, new ControlSigns().forget());
        due("sees() behind it", 1, x.sees(0, -1));
        due("unseen(): the old one is gone", 2, x.unseen());
        changesNothing("forget() of nothing", () -> told("p1;b0 1;"), y -> y.forget());
    }

    // ---- promise 28

    private static void unseen() {
        by("UNSEEN: POLYNOMIALS (bits) by which all that was SEEN is so.");
        due("without POLYNOMIALS", 0, new ControlSigns().unseen());
        due("one, nothing SEEN", 1, told("p1;").unseen());
        due("two, nothing SEEN", 3, told("p1;p1;").unseen());
        due("three, nothing SEEN", 7, told("p1;p1;p1;").unseen());
        for (int p = 0; p < 3; p++) {
            ControlSigns x = told(p == 0 ? "p1;p-1;p-1;" : p == 1 ? "p-1;p1;p-1;" : "p-1;p-1;p1;");
            x.sees(2, 1);
            due("POLYNOMIAL " + p + " alone", 1 << p, x.unseen());
        }
        ControlSigns x = told("p0 1;p0 0 1;p-1 0 1;");
        x.sees(1, 1);
        due("one is 0 there", 3, x.unseen());
        x.sees(-1, 1);
        due("all that was SEEN", 2, x.unseen());
        x.sees(1, 0);
        due("two signs at one place", 0, x.unseen());
        ControlSigns y = told("p1;p2;");
        y.sees(0, 1);
        y.coefs(0, 0, -1);
        due("COEFFICIENTS as they are now", 2, y.unseen());
        y.undo();
        due("behind undo()", 3, y.unseen());
    }

    private static void unseenAtNought() {
        by("SEEN: the sign s (-1, 0, 1) at x: 0 is a sign of its own");
        ControlSigns x = told("p-5 1;p5-1;p0;");
        x.sees(5, 0);
        due("0 at 5", 7, x.unseen());
        x.sees(4, -1);
        due("below 0 at 4", 1, x.unseen());
        x.forget();
        x.sees(4, 1);
        due("above 0 at 4", 2, x.unseen());
        x.forget();
        x.sees(4, 0);
        due("0 at 4", 4, x.unseen());
    }

    private static void unseenFar() {
        by("SEEN: a whole place x (-5 .. 5): the largest numbers");
        ControlSigns x = told("p50 50 50 50 50 50;p-50-50-50-50-50-50;p50-50 50-50 50-50;");
        x.sees(5, 1);
        due("above 0 at 5", 1, x.unseen());
        x.forget();
        x.sees(-5, 1);
        due("above 0 at -5", 6, x.unseen());
        x.sees(5, -1);
        due("below 0 at 5, too", 6, x.unseen());
        x.sees(1, 0);
        due("0 at 1, too", 4, x.unseen());
    }
}
