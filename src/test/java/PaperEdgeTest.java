/** Edges of PAPERS and of bounds that are NARROWED: promises 18 to 22. */
public final class PaperEdgeTest extends Edges {
    /** Not above 0 over NODE 1 by CONTROL as it is (1, 0, 1); RAISED once it is. */
    private static final String ONCE = "p1-2 2;b0 1;";
    /** RAISED once a number is 0; RAISED twice all are above 0. */
    private static final String TWICE = "p1-3 4;b0 1;";
    /** RAISED three times would do; twice does not. */
    private static final String THRICE = "p1-4 8;b0 1;";
    private static final String SURE = "p1;b0 1;";
    private static final String UNSURE_AT_64 = "p38 45 0 37 45;b-1 5;";
    private static final String UNSURE_AT_127 = "p38-45 0-37 45;b-5 1;";

    public static void main(String[] args) {
        figures();
        halves();
        lastHalves();
        witnesses();
        unsure();
        firstEnds();
        nothingKept();
        madeState();
        paperLetters();
        paperRefused();
        witnessParts();
        witnessRefused();
        proves();
        figuresRight();
        letterFaults();
        halvingFaults();
        longPapers();
        provesStays();
        provesState();
        narrowed();
        narrowedInTurn();
        narrowedTies();
        narrowedEnds();
        narrowedRefused();
        finish();
    }

    // ---- promises 18 and 19

    private static void figures() {
        by("THE PAPER: the least RAISED by which all CONTROL is above 0: its figure.");
        dueText("not RAISED", "0", paperOf(told(SURE)));
        dueText("a number that is 0 is not above 0", "1", paperOf(told(ONCE)));
        dueText("RAISED twice", "2", paperOf(told(TWICE)));
        dueText("no more than twice", "s10", paperOf(told(THRICE)));
        due("makes(): letters", 1, told(TWICE).makes());
        due("makes(): letters", 3, told(THRICE).makes());
    }

    private static void halves() {
        by("THE PAPER: else s, and the PAPERS of its lower, of its upper half.");
        dueText("halved once", "s00", paperOf(told("p2-2 1;b-1 3;")));
        dueText("the lower half is halved", "ssss0s0s01000", paperOf(told("p10-34 29;b0 5;")));
        dueText("the upper half is halved", "s0sssss010000", paperOf(told("p1-8 17;b-5 5;")));
        due("makes(): letters", 13, told("p1-8 17;b-5 5;").makes());
        due("19 letters", 19, told("p26 0-50 0 25;b-5 5;").makes());
    }

    private static void lastHalves() {
        by("THE PAPER: NODES below 64 are halved");
        dueText("NODE 63", "s0s0s0s0s0s20", paperOf(told("p25-32 3-33 39;b-5 1;")));
        dueText("NODE 32", "ssssss0200000", paperOf(told("p25 32 3 33 39;b-1 5;")));
    }

    private static void witnesses() {
        by("THE PAPER: is the POLYNOMIAL 0 or less at LO: a WITNESS (that place)");
        String[] low = {"p0 1;b0 1;", "p-1 9;b0 1;", "p0;b2 3;", "p-1;b-5 5;", "p0-1;b0 5;", "p-1 0 1;b-1 2;"};
        long[] places = {0, 0, 2, -5, 0, -1};
        for (int k = 0; k < low.length; k++) {
            due("makes() of " + low[k], WITNESS, told(low[k]).makes());
            due("witness(0) of " + low[k], places[k], told(low[k]).witness(0));
            due("witness(1) of " + low[k], 1, told(low[k]).witness(1));
        }
        by("THE PAPER: else at HI likewise");
        String[] high = {"p1-1;b0 1;", "p1-4;b0 1;", "p1 0-1;b0 5;", "p5-1;b-5 5;"};
        long[] highs = {1, 1, 5, 5};
        for (int k = 0; k < high.length; k++) {
            due("makes() of " + high[k], WITNESS, told(high[k]).makes());
            due("witness(0) of " + high[k], highs[k], told(high[k]).witness(0));
        }
        by("THE PAPER: above 0 at both ends is no WITNESS");
        due("1 at LO", 1, told("p1 1;b0 1;").makes());
        due("1 at HI", 1, told("p2-1;b0 1;").makes());
    }

    private static void unsure() {
        by("THE PAPER: else UNSURE at NODES 64 and more");
        due("NODE 64", UNSURE, told(UNSURE_AT_64).makes());
        due("NODE 127", UNSURE, told(UNSURE_AT_127).makes());
        due("twice a root that is no end", UNSURE, told("p1-6 9;b0 1;").makes());
        by("THE PAPER: a WITNESS at an end of a NODE of 64 and more goes ahead of UNSURE");
        dueParts("at HI of NODE 64", -59, 64, told("p13-14-42 32 48;b-1 4;").witness(0), told("p13-14-42 32 48;b-1 4;").witness(1));
        dueParts("at LO of NODE 127", 59, 64, told("p13 14-42-32 48;b-4 1;").witness(0), told("p13 14-42-32 48;b-4 1;").witness(1));
    }

    private static void firstEnds() {
        by("The first WITNESS, or NODE that is UNSURE, ends all of it.");
        ControlSigns x = told("p0-1-1 1 1;b-2 5;");
        due("it is below 0 at HI of NODE 10", -2535, x.value(10, 1, 0));
        due("UNSURE lies below a WITNESS", UNSURE, x.makes());
        due("no place", NO, x.witness(0));
        ControlSigns y = told("p0 1-1-1 1;b-5 2;");
        due("a WITNESS lies below UNSURE", WITNESS, y.makes());
        dueParts("its place", -5, 8, y.witness(0), y.witness(1));
        dueParts("the first of several", 5, 8, told("p1-6 6;b0 5;").witness(0), told("p1-6 6;b0 5;").witness(1));
    }

    private static void nothingKept() {
        by("(Nothing is kept of it.)");
        changesNothing("makes() of a PAPER", () -> withText(THRICE, "p1;b0 1;"), x -> x.makes());
        changesNothing("makes() of a WITNESS", Edges::rich, x -> x.makes());
        changesNothing("makes() that is UNSURE", Edges::full, x -> x.makes());
        ControlSigns x = told("p1-4 8;p1;b0 1;");
        due("makes()", 3, x.makes());
        x.takes(1, 0);
        due("paper(0): by what is TAKEN now", '0', x.paper(0));
        due("paper(1): no old letter", NONE, x.paper(1));
        x.coefs(1, 0, -1);
        due("paper(0): there is none now", NONE, x.paper(0));
        due("witness(0)", 0, x.witness(0));
        x.undo();
        due("witness(0): there is none now", NO, x.witness(0));
        due("THE TEXT has none of it", 0, x.count(6));
    }

    private static ControlSigns withText(String told, String text) {
        ControlSigns x = told(told);
        write(x, text);
        return x;
    }

    private static void madeState() {
        by("Promise 18: STATE.");
        due("with nothing", STATE, new ControlSigns().makes());
        due("without BOXES", STATE, told("p1;").makes());
        due("without POLYNOMIALS", STATE, told("b0 1;").makes());
    }

    private static void paperLetters() {
        by("The k-th letter of THE PAPER (0 on); NONE: it has not so many");
        ControlSigns x = told(THRICE);
        due("paper(0)", 's', x.paper(0));
        due("paper(1)", '1', x.paper(1));
        due("paper(2), the last", '0', x.paper(2));
        for (int k : new int[] {3, 4, 126, 127, 128, 256, 65536, 1 << 30, MOST}) {
            due("paper(" + k + ")", NONE, x.paper(k));
        }
        by("Promise 19: NONE: there is none");
        for (String text : new String[] {"p0 1;b0 1;", UNSURE_AT_64, UNSURE_AT_127}) {
            for (int k : new int[] {0, 1, 5, 126, MOST}) {
                due("paper(" + k + ") of " + text, NONE, told(text).paper(k));
            }
        }
    }

    private static void paperRefused() {
        by("Promise 19: BAD (k below 0)");
        for (int k : new int[] {-1, -2, -7, -8, LEAST, LEAST + 1}) {
            refused("paper(" + k + ")", BAD, Edges::rich, x -> x.paper(k));
            due("paper(" + k + ") of a PAPER", BAD, told(THRICE).paper(k));
            due("paper(" + k + "), nothing TAKEN: BAD is first", BAD, new ControlSigns().paper(k));
        }
        by("Promise 19: STATE");
        for (int k : new int[] {0, 1, MOST}) {
            due("with nothing", STATE, new ControlSigns().paper(k));
            due("without BOXES", STATE, told("p1;").paper(k));
            due("without POLYNOMIALS", STATE, told("b0 1;").paper(k));
        }
    }

    // ---- promise 20

    private static void witnessParts() {
        by("Where makes() ends: at a WITNESS its place, upper (what = 0), lower number (1); else NO.");
        ControlSigns x = told("p0 1 6;b-5 4;p0 1;p1;");
        dueParts("a 64th", -5, 64, x.witness(0), x.witness(1));
        x.takes(1, 0);
        dueParts("a whole place", -5, 1, x.witness(0), x.witness(1));
        x.takes(2, 0);
        dueParts("a PAPER", NO, NO, x.witness(0), x.witness(1));
        ControlSigns y = told("p1-6 9;b0 1;");
        dueParts("UNSURE", NO, NO, y.witness(0), y.witness(1));
        dueParts("0", 0, 1, told("p0 0 1;b-2 2;").witness(0), told("p0 0 1;b-2 2;").witness(1));
    }

    private static void witnessRefused() {
        by("Promise 20: NO: BAD, STATE, too.");
        for (int what : new int[] {-1, 2, 3, 256, LEAST, MOST}) {
            refused("witness(" + what + ")", NO, () -> withText("p-1;b1 2;", "p1;"), x -> x.witness(what));
        }
        due("with nothing", NO, new ControlSigns().witness(0));
        due("without BOXES", NO, told("p-1;").witness(0));
        due("without POLYNOMIALS", NO, told("b0 1;").witness(0));
    }

    // ---- promise 21

    private static void proves() {
        by("Whether THE TEXT, as a PAPER, PROVES (1, 0)");
        due("its own PAPER", 1, proves(THRICE, "s10"));
        due("its own PAPER, to NODE 63", 1, proves("p25-32 3-33 39;b-5 1;", "s0s0s0s0s0s20"));
        due("its own PAPER, to NODE 64", 1, proves("p25 32 3 33 39;b-1 5;", "ssssss0200000"));
        due("s where a figure would do", 1, proves(SURE, "ss00s00"));
        due("s at all NODES to 32", 1, proves(SURE, "ssssss0000000"));
        due("s at NODE 63", 1, proves(SURE, "s0s0s0s0s0s00"));
        due("not above 0", 0, proves("p-1;b0 1;", "0"));
        due("0 is not above 0", 0, proves("p0;b0 1;", "2"));
        due("not right in the lower half alone", 0, proves("p-1 4;b0 1;", "s00"));
        due("not right in the upper half alone", 0, proves("p3-4;b0 1;", "s00"));
    }

    private static void figuresRight() {
        by("PROVES: any figure that is right at its NODE");
        for (int figure = 0; figure <= 2; figure++) {
            due("figure " + figure + " of " + SURE, 1, proves(SURE, "" + figure));
            due("figure " + figure + " of " + ONCE, figure >= 1 ? 1 : 0, proves(ONCE, "" + figure));
            due("figure " + figure + " of " + TWICE, figure >= 2 ? 1 : 0, proves(TWICE, "" + figure));
            due("figure " + figure + " of " + THRICE, 0, proves(THRICE, "" + figure));
        }
        due("each at its own NODE", 1, proves(THRICE, "s22"));
        due("the first is not right", 0, proves(THRICE, "s00"));
        by("(A figure that is not right is no FAULT.)");
        due("a FAULT behind it", -10 - 2, proves(THRICE, "s0x"));
        due("too early behind it", -10 - 2, proves(THRICE, "s0"));
    }

    private static void letterFaults() {
        by("FAULT: the place of the first letter that can't stand there (any other one)");
        for (int letter = 0; letter < 256; letter++) {
            if ("s012".indexOf(letter) < 0) {
                due("letter " + letter + " at 0", -10, proves(SURE, "" + (char) letter));
                due("letter " + letter + " at 1", -11, proves(SURE, "s" + (char) letter + "0"));
                due("letter " + letter + " at 2", -12, proves(SURE, "s0" + (char) letter));
            }
        }
        by("FAULT: (No blanks.)");
        due("ahead", -10, proves(SURE, " 0"));
        due("behind", -11, proves(SURE, "0 "));
        due("between", -11, proves(SURE, "s 00"));
        by("FAULT: what comes behind the end, too");
        for (char letter : "s012 p".toCharArray()) {
            due(letter + " behind a figure", -11, proves(SURE, "0" + letter));
            due(letter + " behind s00", -13, proves(SURE, "s00" + letter));
        }
        by("FAULT: the text's length, if it ends too early.");
        String[] early = {"", "s", "s0", "ss", "ss0", "ss00", "ssssss", "ssssss0", "s0s0s0s0s0s0", "s0s0s0s0s0s"};
        for (String text : early) {
            due("'" + text + "'", -10 - text.length(), proves(SURE, text));
        }
    }

    private static void halvingFaults() {
        by("FAULT: s at a NODE 64 and more");
        due("NODE 64", -10 - 6, proves(SURE, "sssssss"));
        due("NODE 65", -10 - 7, proves(SURE, "ssssss0s"));
        due("NODE 66", -10 - 9, proves(SURE, "ssssss00ss"));
        due("NODE 126", -10 - 11, proves(SURE, "s0s0s0s0s0ss00"));
        due("NODE 127", -10 - 12, proves(SURE, "s0s0s0s0s0s0s00"));
    }

    private static void longPapers() {
        by("PROVES: a text of as many letters as there may be");
        String all = whole(1);
        String most = "s" + whole(2) + "s" + whole(6) + "s" + whole(14) + "ss00s00";
        due("its letters", 119, most.length());
        due("119 letters", 1, proves(SURE, most));
        due("119 letters, not right", 0, proves("p-1;b0 1;", most));
        due("119 letters, the last alone is not right", 0, proves("p1-1;b0 1;", most));
        due("120 letters, one behind the end", -10 - 119, proves(SURE, most + "0"));
        due("120 letters of 127", -10 - 120, proves(SURE, all.substring(0, 120)));
    }

    /** A PAPER with s at each NODE below 64. */
    private static String whole(int node) {
        return node >= 64 ? "0" : "s" + whole(2 * node) + whole(2 * node + 1);
    }

    private static void provesStays() {
        by("Promise 21: (it stays)");
        ControlSigns x = withText(THRICE, "s10");
        due("proves()", 1, x.proves());
        due("letters", 3, x.count(6));
        due("proves() again", 1, x.proves());
        changesNothing("proves() that is 1", () -> withText(SURE, "0"), y -> y.proves());
        changesNothing("proves() that is 0", () -> withText(ONCE, "0"), y -> y.proves());
        refused("proves(), a FAULT", -10, Edges::rich, y -> y.proves());
        refused("proves(), another FAULT", -11, () -> withText(SURE, "0p"), y -> y.proves());
    }

    private static void provesState() {
        by("Promise 21: STATE; -10 less FAULT.");
        ControlSigns[] lacking = {new ControlSigns(), told("p1;"), told("b0 1;")};
        for (ControlSigns x : lacking) {
            due("an empty text", STATE, x.proves());
            x.type('0');
            due("a PAPER", STATE, x.proves());
            x.type('x');
            due("a FAULT: STATE is first", STATE, x.proves());
        }
    }

    // ---- promise 22

    private static void narrowed() {
        by("NARROWED n times (0 .. 20): from NODE 1 alone");
        ControlSigns x = told("p1-3 7;b0 1;");
        dueParts("0 times, LOWER", -1, 2, x.narrowed(0, 0, 0), x.narrowed(0, 0, 1));
        dueParts("0 times, UPPER", 1, 1, x.narrowed(0, 1, 0), x.narrowed(0, 1, 1));
        dueParts("once, LOWER", 1, 4, x.narrowed(1, 0, 0), x.narrowed(1, 0, 1));
        dueParts("once, UPPER", 1, 1, x.narrowed(1, 1, 0), x.narrowed(1, 1, 1));
        dueParts("twice, LOWER", 5, 8, x.narrowed(2, 0, 0), x.narrowed(2, 0, 1));
        dueParts("twice, UPPER", 11, 16, x.narrowed(2, 1, 0), x.narrowed(2, 1, 1));
        dueParts("6 times, LOWER", 1389, 2048, x.narrowed(6, 0, 0), x.narrowed(6, 0, 1));
        dueParts("20 times, LOWER", 1389, 2048, x.narrowed(20, 0, 0), x.narrowed(20, 0, 1));
        dueParts("20 times, UPPER", 695, 1024, x.narrowed(20, 1, 0), x.narrowed(20, 1, 1));

        by("LOWER: the least CONTROL of all NODES, UPPER: the least that the POLYNOMIAL is at their ends.");
        ControlSigns y = told("p3;p0 1;p0-1;b-5 5;");
        dueParts("n is 0, LOWER", 3, 1, y.narrowed(20, 0, 0), y.narrowed(20, 0, 1));
        dueParts("n is 0, UPPER", 3, 1, y.narrowed(20, 1, 0), y.narrowed(20, 1, 1));
        y.takes(1, 0);
        due("at LO, LOWER", -5, y.narrowed(7, 0, 0));
        due("at LO, UPPER", -5, y.narrowed(7, 1, 0));
        due("at LO, once, LOWER", -5, y.narrowed(1, 0, 0));
        due("at LO, once, UPPER", -5, y.narrowed(1, 1, 0));
        y.takes(2, 0);
        due("at HI, LOWER", -5, y.narrowed(7, 0, 0));
        due("at HI, UPPER", -5, y.narrowed(7, 1, 0));
        due("at HI, once, LOWER", -5, y.narrowed(1, 0, 0));
        due("at HI, once, UPPER", -5, y.narrowed(1, 1, 0));
        due("at HI of a NODE that is not halved, UPPER", -2, told("p1-7 5-1;b0 3;").narrowed(2, 1, 0));
    }

    /** Two places lie equally low, so that halves of both are put in turn; the eleventh time is the last. */
    private static void narrowedInTurn() {
        by("NARROWED n times: of all NODES the one with the least CONTROL is put by its halves");
        long[][] lowers = {{-18, 1}, {-4, 1}, {-4, 1}, {-5, 2}, {-5, 2}, {-55, 24}, {-55, 24}, {-289, 128}, {-289, 128},
            {-1153, 512}, {-1153, 512}, {-36871, 16384}};
        long[][] uppers = {{10, 1}, {-2, 1}, {-2, 1}, {-2, 1}, {-35, 16}, {-35, 16}, {-575, 256}, {-575, 256}, {-575, 256},
            {-575, 256}, {-147407, 65536}, {-147407, 65536}};
        ControlSigns x = told("p-2 0-1 0 1;b-2 2;");
        for (int n = 0; n <= 20; n++) {
            int times = Math.min(n, 11);
            dueParts(n + " times, LOWER", lowers[times][0], lowers[times][1], x.narrowed(n, 0, 0), x.narrowed(n, 0, 1));
            dueParts(n + " times, UPPER", uppers[times][0], uppers[times][1], x.narrowed(n, 1, 0), x.narrowed(n, 1, 1));
        }
    }

    private static void narrowedTies() {
        by("NARROWED: of several the one that lies lowest");
        ControlSigns x = told("p3 0-3 1 3;b-4 4;");
        due("the lowest place, though its number is greater", 2, x.narrowed(3, 1, 0));
        ControlSigns y = told("p3 0-3-1 3;b-4 4;");
        due("the lowest place, though its number is less", 3, y.narrowed(3, 1, 0));
    }

    private static void narrowedEnds() {
        by("NARROWED: ends earlier, if that is 64 and more");
        ControlSigns x = told("p-49 0-38 5 48-12;b-3 3;");
        dueParts("20 times, UPPER: others are not halved then", -14793349, 262144, x.narrowed(20, 1, 0), x.narrowed(20, 1, 1));
        ControlSigns y = told(UNSURE_AT_64);
        dueParts("5 times: NODE 32", -163, 512, y.narrowed(5, 0, 0), y.narrowed(5, 0, 1));
        dueParts("6 times: NODE 32 is halved", -2389, 131072, y.narrowed(6, 0, 0), y.narrowed(6, 0, 1));
        dueParts("7 times: NODE 64 is not", -2389, 131072, y.narrowed(7, 0, 0), y.narrowed(7, 0, 1));
        ControlSigns z = told(UNSURE_AT_127);
        dueParts("5 times: NODE 63", -163, 512, z.narrowed(5, 0, 0), z.narrowed(5, 0, 1));
        dueParts("6 times: NODE 63 is halved", -2389, 131072, z.narrowed(6, 0, 0), z.narrowed(6, 0, 1));
        dueParts("7 times: NODE 127 is not", -2389, 131072, z.narrowed(7, 0, 0), z.narrowed(7, 0, 1));
        dueParts("20 times, UPPER", 34717, 1048576, z.narrowed(20, 1, 0), z.narrowed(20, 1, 1));
    }

    private static void narrowedRefused() {
        by("Promise 22: NO: BAD: NARROWED n times (0 .. 20)");
        for (int n : new int[] {-1, 21, 22, 64, 256, LEAST, MOST}) {
            refused("narrowed(" + n + ", 0, 0)", NO, Edges::rich, x -> x.narrowed(n, 0, 0));
        }
        by("Promise 22: NO: BAD: LOWER (which = 0), UPPER (1)");
        for (int which : new int[] {-1, 2, 256, LEAST, MOST}) {
            refused("narrowed(0, " + which + ", 0)", NO, Edges::rich, x -> x.narrowed(0, which, 0));
        }
        by("Promise 22: NO: BAD: upper (what = 0), lower number (1)");
        for (int what : new int[] {-1, 2, 256, LEAST, MOST}) {
            refused("narrowed(0, 0, " + what + ")", NO, Edges::rich, x -> x.narrowed(0, 0, what));
        }
        by("Promise 22: NO: STATE");
        due("with nothing", NO, new ControlSigns().narrowed(0, 0, 0));
        due("without BOXES", NO, told("p1;").narrowed(0, 0, 0));
        due("without POLYNOMIALS", NO, told("b0 1;").narrowed(0, 0, 0));
    }
}
