/** Edges of what is told by a text: promises 1 to 4, and what 'Terms' says of THE TEXT. */
public final class TextEdgeTest extends Edges {
    public static void main(String[] args) {
        newObject();
        letters();
        fullText();
        clearedText();
        polynomials();
        coefficientsOfOne();
        coefficientSizes();
        degrees();
        boxes();
        endSizes();
        endOrder();
        blanks();
        items();
        minus();
        minusNought();
        otherLetters();
        numbersTooLarge();
        noughtsAhead();
        endsTooEarly();
        firstFault();
        faultChangesNothing();
        itemsRead();
        readAnew();
        finish();
    }

    // ---- promise 1

    private static void newObject() {
        by("Promise 1: No POLYNOMIALS, no BOXES.");
        ControlSigns x = new ControlSigns();
        due("POLYNOMIALS", 0, x.count(0));
        due("BOXES", 0, x.count(1));
        due("coef(0, 0)", NO, x.coef(0, 0));
        due("box(0, 0)", NO, x.box(0, 0));
        due("wish(0)", NO, x.wish(0));
        due("unseen()", 0, x.unseen());
        due("keep(0)", 0, x.keep(0));

        by("TAKEN are one POLYNOMIAL and one BOX (0 and 0 at first).");
        due("the POLYNOMIAL that is TAKEN", 0, x.count(2));
        due("the BOX that is TAKEN", 0, x.count(3));
        ControlSigns y = told("p1;p2;b0 1;b2 3;");
        due("value(1, 0, 0)", 1, y.value(1, 0, 0));
        due("end(1, 0, 0)", 0, y.end(1, 0, 0));

        by("Promise 1: a new object has nothing else");
        due("SEEN", 0, x.count(5));
        due("letters", 0, x.count(6));
        due("what may be UNDONE", 0, x.count(7));
        due("undo()", STATE, x.undo());
        due("back(1)", STATE, x.back(1));
    }

    // ---- promises 2 and 3

    private static void letters() {
        by("A letter (0 .. 255) comes to THE TEXT: how many it has.");
        for (int from = 0; from < 256; from += 64) {
            ControlSigns x = new ControlSigns();
            for (int letter = from; letter < from + 64; letter++) {
                due("type(" + letter + ")", letter - from + 1, x.type(letter));
            }
        }
        by("Promise 2: BAD");
        int[] none = {-1, 256, 257, 256 + 'p', 'p' - 256, 65536 + 'p', -128, -256, LEAST, LEAST + 'p', MOST};
        for (int letter : none) {
            refused("type(" + letter + ")", BAD, Edges::rich, x -> x.type(letter));
        }
    }

    private static void fullText() {
        by("Promise 2: FULL: 120.");
        ControlSigns x = new ControlSigns();
        for (int k = 1; k <= 119; k++) {
            x.type(' ');
        }
        due("the 120th letter", 120, x.type(' '));
        due("the 121st letter", FULL, x.type(' '));
        due("the 122nd letter", FULL, x.type(0));
        due("letters", 120, x.count(6));
        refused("type(';') at 120 letters", FULL, Edges::full, y -> y.type(';'));

        by("Promise 2: FULL no more, when THE TEXT is empty");
        due("clear()", 120, x.clear());
        due("type(' ')", 1, x.type(' '));
        ControlSigns y = new ControlSigns();
        write(y, "b0 1;" + " ".repeat(115));
        due("house() of 120 letters", 1, y.house());
        due("type(' ') behind house()", 1, y.type(' '));

        by("the first of these: BAD, STATE, FULL (type)");
        refused("type(256) at 120 letters", BAD, Edges::full, z -> z.type(256));
        refused("type(-1) at 120 letters", BAD, Edges::full, z -> z.type(-1));
    }

    private static void clearedText() {
        by("THE TEXT is empty: how many letters it had.");
        ControlSigns x = new ControlSigns();
        due("clear() of a new object", 0, x.clear());
        x.type('p');
        due("clear() of one letter", 1, x.clear());
        due("letters", 0, x.count(6));
        due("clear() again", 0, x.clear());
        write(x, "b0 1;");
        due("house(): the p is gone", 1, x.house());
        due("clear() behind house()", 0, x.clear());
        write(x, "p1234;");
        x.clear();
        write(x, "p1");
        due("house() of p1: the old figures are gone", -10 - 2, x.house());
        x.clear();
        write(x, "p1 23;");
        x.house();
        write(x, "p1");
        due("house() of p1 behind house(): the old letters are gone", -10 - 2, x.house());
        x.clear();
        due("clear() of 120 letters", 120, full().clear());

        by("Promise 3: THE TEXT is empty, and nothing else changes");
        ControlSigns y = rich();
        y.clear();
        write(y, "p4 5;b0 3;");
        dueSame("behind clear(), told again", rich(), y);
    }

    // ---- how many, how large

    private static void polynomials() {
        by("POLYNOMIALS 0, 1, .. (3 at most)");
        for (int many = 0; many <= 3; many++) {
            ControlSigns x = told("p7;".repeat(many) + "b0 1;");
            due("POLYNOMIALS of " + many, many, x.count(0));
            for (int p = 0; p < 4; p++) {
                due("coef(" + p + ", 0) of " + many, p < many ? 7 : NO, x.coef(p, 0));
            }
        }
        by("FAULT: a fourth p");
        due("p1;p2;p3;p4;", -10 - 9, house("p1;p2;p3;p4;"));
        due("with BOXES between", -10 - 15, house("p1;b0 1;p2;p3; p4;"));
        due("with what is wrong behind it", -10 - 9, house("p1;p2;p3;p@"));
        due("alone at the end", -10 - 9, house("p1;p2;p3;p"));
    }

    private static void coefficientsOfOne() {
        by("1 to 6 COEFFICIENTS");
        due("none", -10 - 1, house("p;"));
        due("none, blanks", -10 - 3, house("p  ;"));
        String text = "p";
        for (int many = 1; many <= 6; many++) {
            text += " " + many;
            ControlSigns x = told(text + ";");
            due("n of " + many, many - 1, x.count(4));
            due("the last of " + many, many, x.coef(0, many - 1));
            due("behind the last of " + many, NO, x.coef(0, many));
        }
        by("FAULT: a seventh COEFFICIENT");
        due("a seventh", -10 - 14, house(text + " 7;"));
        due("a seventh that is too large", -10 - 14, house(text + " 51;"));
        due("a seventh that no NUMBER is like", -10 - 14, house(text + " 07;"));
        due("in the second POLYNOMIAL", -10 - 16, house("p1;p1 2 3 4 5 6 7;"));
        due("six in each of three are right", 3, house("p1 2 3 4 5 6;p1 2 3 4 5 6;p1 2 3 4 5 6;"));
    }

    private static void coefficientSizes() {
        by("COEFFICIENTS (-50 .. 50)");
        due("50", 50, told("p50;").coef(0, 0));
        due("-50", -50, told("p-50;").coef(0, 0));
        due("50 in the last place", 50, told("p0 0 0 0 0 50;").coef(0, 5));
        due("-50 in the last place", -50, told("p0 0 0 0 0-50;").coef(0, 5));

        by("FAULT: a NUMBER by which a COEFFICIENT is not what it may be");
        due("51", -10 - 1, house("p51;"));
        due("-51: the NUMBER's place", -10 - 2, house("p-51;"));
        due("- 51: the NUMBER's place", -10 - 3, house("p- 51;"));
        due("99", -10 - 1, house("p99;"));
        due("51 in the last place", -10 - 11, house("p0 0 0 0 0 51;"));
        due("51 in the third POLYNOMIAL", -10 - 7, house("p1;p1;p51;"));
    }

    private static void degrees() {
        by("n: COEFFICIENTS less 1 (the last may be 0)");
        due("p0;", 0, told("p0;").count(4));
        due("p1 0;", 1, told("p1 0;").count(4));
        due("p0 0 0 0 0 0;", 5, told("p0 0 0 0 0 0;").count(4));
        ControlSigns x = told("p1 2 3;b0 1;");
        x.coefs(0, 2, 0);
        due("n, when the last becomes 0", 2, x.count(4));
        due("the last number of its row", 3, x.control(1, 0, 2, 0));
        due("behind the last number", NO, x.control(1, 0, 3, 0));
    }

    private static void boxes() {
        by("BOXES 0, 1, .. (3 at most)");
        for (int many = 0; many <= 3; many++) {
            ControlSigns x = told("p7;" + "b1 2;".repeat(many));
            due("BOXES of " + many, many, x.count(1));
            for (int box = 0; box < 4; box++) {
                due("box(" + box + ", 0) of " + many, box < many ? 1 : NO, x.box(box, 0));
            }
        }
        by("FAULT: a fourth b");
        due("b0 1;b0 1;b0 1;b0 1;", -10 - 15, house("b0 1;b0 1;b0 1;b0 1;"));
        due("with a POLYNOMIAL between", -10 - 19, house("b0 1;p1;b0 1;b0 1; b0 1;"));
        due("alone at the end", -10 - 15, house("b0 1;b0 1;b0 1;b"));
    }

    private static void endSizes() {
        by("from A to B (-5 .. 5, A below B): how far");
        ControlSigns x = told("b-5-4;b4 5;b-5 5;");
        due("A -5", -5, x.box(0, 0));
        due("B -4", -4, x.box(0, 1));
        due("A 4", 4, x.box(1, 0));
        due("B 5", 5, x.box(1, 1));
        due("A -5, B 5", 5, x.box(2, 1));

        by("FAULT: a NUMBER by which A is not what it may be");
        due("A -6", -10 - 2, house("b-6 0;"));
        due("A 6", -10 - 1, house("b6 7;"));
        due("A 99", -10 - 1, house("b99 5;"));

        by("FAULT: a NUMBER by which B is not what it may be");
        due("B 6", -10 - 3, house("b0 6;"));
        due("B -6", -10 - 5, house("b-5 -6;"));
        due("B 99", -10 - 3, house("b0 99;"));
    }

    private static void endOrder() {
        by("A below B");
        due("B one above A", 1, house("b-1 0;"));
        due("B is A", -10 - 3, house("b3 3;"));
        due("B is A, below 0", -10 - 5, house("b-3 -3;"));
        due("B below A", -10 - 3, house("b3 2;"));
        due("B far below A", -10 - 4, house("b5 -5;"));
        due("in the third BOX", -10 - 13, house("b0 1;b0 1;b2 1;"));

        by("b A B: two numbers, no less, no more");
        due("none", -10 - 1, house("b;"));
        due("one", -10 - 2, house("b1;"));
        due("three", -10 - 5, house("b1 2 3;"));
    }

    // ---- TOKENS

    private static void blanks() {
        by("blanks (32) between TOKENS");
        due("none at all where none is needed", 2, house("p-1-2;b-2-1;"));
        due("between all", 2, house(" p - 1 - 2 ; b - 2 - 1 ; "));
        due("many", 1, house("      p      1      ;      "));
        ControlSigns x = told("p1 2;");
        due("a blank parts two NUMBERS", 2, x.coef(0, 1));
        ControlSigns y = told("p12;");
        due("no blank: one NUMBER", 12, y.coef(0, 0));
        due("no blank: no second one", NO, y.coef(0, 1));
        int[] no = {0, 9, 10, 11, 12, 13, 31, 33, 95, 160, 255};
        for (int letter : no) {
            due("letter " + letter + " is no blank", -10 - 2, house("p1" + (char) letter + "2;"));
        }
    }

    private static void items() {
        by("ITEMS, each ended by ;");
        due("; alone", -10, house(";"));
        due("; twice", -10 - 3, house("p1;;"));
        due("no ; ahead of the next p", -10 - 2, house("p1p2;"));
        due("no ; ahead of the next b", -10 - 2, house("p1b0 1;"));
        due("no ; ahead of the next b, behind a BOX", -10 - 4, house("b0 1b1 2;"));
        due("a NUMBER outside", -10 - 3, house("p1;2"));
        due("a NUMBER ahead", -10, house("5p1;"));
        due("a - outside", -10 - 3, house("p1;-"));
        due("p behind p", -10 - 1, house("pp1;"));
        due("b behind p", -10 - 1, house("pb0 1;"));
        due("p behind b", -10 - 1, house("bp1;"));
        due("p behind A", -10 - 2, house("b1p1;"));
        due("in any order", 6, house("b0 1;p1;b1 2;p2;b2 3;p3;"));
        ControlSigns x = told("b0 1;p1;b1 2;p2;");
        due("the next POLYNOMIAL", 2, x.coef(1, 0));
        due("the next BOX", 1, x.box(1, 0));
    }

    private static void minus() {
        by("A number may have a - ahead of it.");
        ControlSigns x = told("p-1 2 - 3;b - 4 -3;");
        due("-1", -1, x.coef(0, 0));
        due("2: the - is used up", 2, x.coef(0, 1));
        due("- 3", -3, x.coef(0, 2));
        due("A", -4, x.box(0, 0));
        due("B", -3, x.box(0, 1));
        due("- twice", -10 - 2, house("p--1;"));
        due("- twice, ahead of B", -10 - 3, house("b0--1;"));
        due("- and ;", -10 - 2, house("p-;"));
        due("- and ; behind a number", -10 - 3, house("p1-;"));
        due("- and p", -10 - 2, house("p-p1;"));
        due("- and ; ahead of B", -10 - 3, house("b0-;"));
        due("a + is none", -10 - 1, house("p+1;"));
    }

    private static void minusNought() {
        by("(- 0 is 0.)");
        ControlSigns x = told("p-0 -0;b-0 1;b-1-0;");
        due("a COEFFICIENT", 0, x.coef(0, 0));
        due("the last one", 0, x.coef(0, 1));
        due("A", 0, x.box(0, 0));
        due("B", 0, x.box(1, 1));
        due("coefs(0, 0, 0): it is that", STATE, x.coefs(0, 0, 0));
        due("b-0 0;: A is not below B", -10 - 4, house("b-0 0;"));
        due("b0 -0;: A is not below B", -10 - 4, house("b0 -0;"));
    }

    /** All 256 letters behind the beginning of a text; those that may stand there are left out by the caller. */
    private static void sweep(String beginning, String allowed) {
        for (int letter = 0; letter < 256; letter++) {
            if (allowed.indexOf(letter) < 0) {
                due("house() of '" + beginning + "' and letter " + letter, -10 - beginning.length(),
                    house(beginning + (char) letter + " 1;"));
            }
        }
    }

    private static void otherLetters() {
        by("FAULT: of any other letter that TOKEN's; the first TOKEN that can't stand there");
        sweep("", "pb ");
        sweep("p1;", "pb ");
        sweep("p", "-0123456789 ");
        sweep("p-", "0123456789 ");
        sweep("p1", "-0123456789; ");
        sweep("b", "-0123456789 ");
        sweep("b-", "0123456789 ");
        sweep("b0", "-0123456789 ");
        sweep("b0 1", "0123456789; ");
        sweep("p1 2 3 4 5 6", "0123456789; ");
        by("TOKENS are the letters p, b: small ones");
        due("P1;", -10, house("P1;"));
        due("B0 1;", -10, house("B0 1;"));
    }

    private static void numbersTooLarge() {
        by("FAULT: of a NUMBER above 99 that TOKEN's");
        due("100", -10 - 1, house("p100;"));
        due("100 behind another", -10 - 3, house("p1 100;"));
        due("-100: the NUMBER's place", -10 - 2, house("p-100;"));
        due("999", -10 - 1, house("p999;"));
        due("A 100", -10 - 1, house("b100 5;"));
        due("B 100", -10 - 3, house("b0 100;"));
        due("100 outside", -10 - 3, house("p1;100"));
        due("100, the text ends behind it", -10 - 1, house("p100"));
        due("2 to the power of 32, and 1", -10 - 1, house("p4294967297;"));
        due("2 to the power of 64, and 1", -10 - 1, house("p18446744073709551617;"));
        due("118 figures", -10 - 1, house("p" + "1".repeat(118) + ";"));
        due("119 figures", -10 - 1, house("p" + "1".repeat(119)));
    }

    private static void noughtsAhead() {
        by("FAULT: of a NUMBER with a 0 ahead of others that TOKEN's");
        due("00", -10 - 1, house("p00;"));
        due("01", -10 - 1, house("p01;"));
        due("09", -10 - 1, house("p09;"));
        due("050", -10 - 1, house("p050;"));
        due("-01", -10 - 2, house("p-01;"));
        due("01 behind another", -10 - 3, house("p1 01;"));
        due("A 00", -10 - 1, house("b00 1;"));
        due("B 01", -10 - 3, house("b0 01;"));
        due("a 0 that is alone is right", 1, house("p0;"));
        due("a 0 behind others is right", 1, house("p10;"));
        due("0s with blanks between are right", 1, house("p0 0 1;"));
    }

    private static void endsTooEarly() {
        by("FAULT: the text's length, if it ends too early.");
        String[] texts = {"p", "p ", "p1", "p1 ", "p-", "p- ", "p1 2 3 4 5 6", "b", "b-", "b1", "b1 ", "b1-", "b1 2",
            "b1 2  ", "p1;p", "p1;b0 1;b", "p1;p2;p3;b0 1;b0 1;b0 1"};
        for (String text : texts) {
            due("house() of '" + text + "'", -10 - text.length(), house(text));
        }
        due("120 letters", -10 - 120, house("p1" + " ".repeat(118)));
        due("119 letters", -10 - 119, house("p1" + " ".repeat(117)));
        due("120 letters that end in time", 1, house("p1" + " ".repeat(117) + ";"));
    }

    private static void firstFault() {
        by("FAULT: the first TOKEN that can't stand there");
        due("two NUMBERS that are too large", -10 - 1, house("p51 52;"));
        due("a NUMBER that is too large, another letter behind it", -10 - 1, house("p51;@"));
        due("another letter, a NUMBER that is too large behind it", -10 - 1, house("p@ 51;"));
        due("a NUMBER that is too large, and it ends too early", -10 - 1, house("p51"));
        due("B below A, and it ends too early", -10 - 3, house("b3 2"));
        due("blanks ahead count", -10 - 5, house("     @"));
        due("the first letter of all", -10, house("@"));
    }

    // ---- promise 4

    private static void faultChangesNothing() {
        by("Promise 4: -10 less FAULT: nothing changes.");
        String[] ends = {"p", "p9;p9;p9;p9", "p51;", "b5 5;", "p8 8 8 8 8 8 8;", "p9 9;b-5 5;@", "p9;b"};
        int[] faults = {1, 9, 1, 3, 13, 11, 4};
        for (int k = 0; k < ends.length; k++) {
            String text = ends[k];
            refused("house() of '" + text + "'", -10 - faults[k], () -> richWith(text), x -> x.house());
        }
        ControlSigns x = richWith("p51;");
        due("a FAULT", -11, x.house());
        due("THE TEXT stays: letters", 4, x.count(6));
        due("THE TEXT stays: the FAULT again", -11, x.house());
    }

    private static ControlSigns richWith(String text) {
        ControlSigns x = rich();
        x.clear();
        write(x, text);
        return x;
    }

    private static void itemsRead() {
        by("THE TEXT tells all anew, and is empty then: how many ITEMS.");
        due("no letters", 0, house(""));
        due("120 blanks", 0, house(" ".repeat(120)));
        due("one", 1, house("p1;"));
        due("six", 6, house("p1;p1;p1;b0 1;b0 1;b0 1;"));
        ControlSigns x = new ControlSigns();
        write(x, "p1;b0 1;");
        due("two", 2, x.house());
        due("THE TEXT is empty", 0, x.count(6));
        due("type(' ')", 1, x.type(' '));
        due("the old letters are gone", 0, x.house());
        due("POLYNOMIALS then", 0, x.count(0));
        due("BOXES then", 0, x.count(1));
    }

    private static void readAnew() {
        by("Read anew: all as told");
        ControlSigns x = told("p1 2 3;p4 5;p6;b0 1;b1 2;b2 3;");
        write(x, "p7 8;b-4-3;");
        due("house()", 2, x.house());
        due("POLYNOMIALS", 1, x.count(0));
        due("BOXES", 1, x.count(1));
        due("n", 1, x.count(4));
        due("coef(0, 0)", 7, x.coef(0, 0));
        due("coef(0, 1)", 8, x.coef(0, 1));
        due("coef(0, 2) is gone", NO, x.coef(0, 2));
        due("coef(1, 0) is gone", NO, x.coef(1, 0));
        due("box(0, 0)", -4, x.box(0, 0));
        due("box(1, 0) is gone", NO, x.box(1, 0));
        due("wish(1) is gone", NO, x.wish(1));
        due("takes(1, 0): there is no such POLYNOMIAL", BAD, x.takes(1, 0));
        due("takes(0, 1): there is no such BOX", BAD, x.takes(0, 1));
        due("coefs(0, 2, 9): there is no such COEFFICIENT", BAD, x.coefs(0, 2, 9));
        due("ends(1, 0, 5): there is no such BOX", BAD, x.ends(1, 0, 5));
        due("wishes(1, 1): there is no such POLYNOMIAL", BAD, x.wishes(1, 1));
        due("unseen()", 1, x.unseen());

        by("Read anew: no WISHES");
        ControlSigns y = anew();
        due("wish(0)", 0, y.wish(0));
        due("wish(1)", 0, y.wish(1));
        due("wish(2)", 0, y.wish(2));
        due("sure(0)", 64, y.sure(0));

        by("Read anew: 0 and 0 are TAKEN");
        due("the POLYNOMIAL", 0, y.count(2));
        due("the BOX", 0, y.count(3));
        due("value(1, 0, 0)", -1, y.value(1, 0, 0));

        by("Read anew: nothing SEEN");
        due("SEEN", 0, y.count(5));
        due("unseen()", 7, y.unseen());

        by("Read anew: IMAGES are gone");
        due("back(0)", STATE, y.back(0));
        due("back(1)", STATE, y.back(1));

        by("THE TEXT tells all anew: nothing of before can be UNDONE");
        due("what may be UNDONE", 0, y.count(7));
        due("undo()", STATE, y.undo());
        due("wish(0)", 0, y.wish(0));
        due("what was DONE since", 1, y.coefs(0, 0, 9));
        due("undo()", 0, y.undo());
        due("coef(0, 0)", -1, y.coef(0, 0));

        by("Read anew, by a text without ITEMS: nothing is there");
        due("house()", 0, y.house());
        due("POLYNOMIALS", 0, y.count(0));
        due("BOXES", 0, y.count(1));
        due("n", NONE, y.count(4));
        due("makes()", STATE, y.makes());
        due("first()", STATE, y.first());
    }

    /** An object with all that can be forgotten, behind a second house(). */
    private static ControlSigns anew() {
        ControlSigns x = told("p1;p2;p3;b0 1;b1 2;");
        x.wishes(0, -1);
        x.wishes(1, -1);
        x.wishes(2, -1);
        x.takes(2, 1);
        x.sees(0, 0);
        x.keep(0);
        x.keep(1);
        write(x, "p-1;p-2;p-3;b2 3;b3 4;");
        due("house()", 5, x.house());
        return x;
    }
}
