import java.math.BigInteger;

/** Edges of CONTROL, VARIATION, ends, values and BRACKETS: promises 12 to 17. */
public final class ControlEdgeTest extends Edges {
    private static final String LARGEST = "p50 50 50 50 50 50;b-5 5;";
    /** n is 0, 5, 2; roots of the second: -2, -1, 0, 1, 2. */
    private static final String SIZES = "p3;p0 4 0-5 0 1;p1-3 0;b-3 3;b-1 1;";

    public static void main(String[] args) {
        controlNodes();
        controlRaised();
        controlIndex();
        controlOfPowers();
        controlWhat();
        controlState();
        controlLargest();
        leastTerms();
        variationNodes();
        variationNoughts();
        variationState();
        end();
        endRefused();
        value();
        valueRefused();
        noVariation();
        oneVariation();
        moreVariation();
        lastHalving();
        bracketParts();
        bracketRefused();
        finish();
    }

    private static ControlSigns sizes(int p) {
        ControlSigns x = told(SIZES);
        x.takes(p, 0);
        return x;
    }

    // ---- promise 12

    private static void controlNodes() {
        by("CONTROL of what is TAKEN over a NODE (1 .. 127)");
        ControlSigns x = told("p0 1;b0 1;");
        for (int node = 1; node < 128; node++) {
            int halvings = Integer.numberOfTrailingZeros(Integer.highestOneBit(node));
            long place = node - (1 << halvings);
            long divisor = place == 0 ? 1 << halvings : 1 << Math.min(halvings, Long.numberOfTrailingZeros(place));
            due("control(" + node + ", 0, 0, 0)", place / divisor, x.control(node, 0, 0, 0));
            due("control(" + node + ", 0, 0, 1)", (1 << halvings) / divisor, x.control(node, 0, 0, 1));
        }
        by("Promise 12: NO: BAD: a NODE (1 .. 127)");
        for (int node : new int[] {0, 128, 129, -1, -127, 255, 257, 65537, 1 << 30, LEAST, LEAST + 1, MOST}) {
            refused("control(" + node + ", 0, 0, 0)", NO, Edges::rich, y -> y.control(node, 0, 0, 0));
        }
    }

    private static void controlRaised() {
        by("RAISED by r (0 .. 2)");
        ControlSigns x = told("p1-3 3;b0 1;");
        long[][] uppers = {{1, -1, 1}, {1, 0, 0, 1}, {1, 1, 0, 1, 1}};
        long[][] lowers = {{1, 2, 1}, {1, 1, 1, 1}, {1, 4, 1, 4, 1}};
        for (int r = 0; r <= 2; r++) {
            for (int i = 0; i < uppers[r].length; i++) {
                dueParts("control(1, " + r + ", " + i + ")", uppers[r][i], lowers[r][i],
                    x.control(1, r, i, 0), x.control(1, r, i, 1));
            }
        }
        by("Promise 12: NO: BAD: RAISED by r (0 .. 2)");
        for (int r : new int[] {-1, 3, 4, 256, LEAST, MOST}) {
            refused("control(1, " + r + ", 0, 0)", NO, Edges::rich, y -> y.control(1, r, 0, 0));
        }
    }

    private static void controlIndex() {
        by("the i-th (0 .. n and r)");
        int[] degrees = {0, 5, 2};
        for (int p = 0; p < 3; p++) {
            ControlSigns x = sizes(p);
            for (int r = 0; r <= 2; r++) {
                int last = degrees[p] + r;
                String call = "n " + degrees[p] + ", r " + r;
                due(call + ", the first", 1, x.control(1, r, 0, 1));
                due(call + ", the last", 1, x.control(1, r, last, 1));
                due(call + ", behind the last", NO, x.control(1, r, last + 1, 1));
                due(call + ", ahead of the first", NO, x.control(1, r, -1, 1));
            }
        }
        for (int i : new int[] {-2, 8, 9, 256, LEAST, MOST - 2, MOST}) {
            due("control(1, 2, " + i + ", 0)", NO, sizes(1).control(1, 2, i, 0));
            due("control(1, 0, " + i + ", 0)", NO, sizes(1).control(1, 0, i, 0));
        }
        ControlSigns x = sizes(0);
        for (int i = 0; i <= 2; i++) {
            due("a number alone stays it, " + i, 3, x.control(77, 2, i, 0));
        }
    }

    private static long over(int n, int k) {
        long ways = 1;
        for (int j = 1; j <= k; j++) {
            ways = ways * (n - k + j) / j;
        }
        return n < k ? 0 : ways;
    }

    /** Over 0 to 1 the row of x to the power of k is (i over k) by (N over k). */
    private static void controlOfPowers() {
        by("with N being n and r, the numbers c 0 .. c N: of each n (0 .. 5), each r (0 .. 2), each i");
        for (int n = 0; n <= 5; n++) {
            for (int k = 0; k <= n; k++) {
                ControlSigns x = told("p" + " 0".repeat(k) + " 1" + " 0".repeat(n - k) + ";b0 1;");
                for (int r = 0; r <= 2; r++) {
                    for (int i = 0; i <= n + r; i++) {
                        long common = BigInteger.valueOf(over(i, k)).gcd(BigInteger.valueOf(over(n + r, k))).longValue();
                        dueParts("n " + n + ", power " + k + ", control(1, " + r + ", " + i + ")", over(i, k) / common,
                            over(n + r, k) / common, x.control(1, r, i, 0), x.control(1, r, i, 1));
                    }
                }
            }
        }
    }

    private static void controlWhat() {
        by("control: upper (what = 0), lower number (1)");
        ControlSigns x = told("p-1 1;b0 1;");
        due("upper", -1, x.control(2, 0, 1, 0));
        due("lower", 2, x.control(2, 0, 1, 1));
        for (int what : new int[] {-1, 2, 3, 256, LEAST, MOST}) {
            due("control(1, 0, 0, " + what + ")", NO, x.control(1, 0, 0, what));
        }
    }

    private static void controlState() {
        by("Promise 12: NO: STATE");
        due("with nothing", NO, new ControlSigns().control(1, 0, 0, 0));
        due("without BOXES", NO, told("p1;").control(1, 0, 0, 0));
        due("without POLYNOMIALS", NO, told("b0 1;").control(1, 0, 0, 0));
    }

    private static void controlLargest() {
        by("COEFFICIENTS (-50 .. 50), ends -5 .. 5: the largest numbers");
        ControlSigns x = told(LARGEST);
        due("at A", -130200, x.control(1, 2, 0, 0));
        due("at B", 195300, x.control(1, 2, 7, 0));
        x.ends(0, 4, 5);
        BigInteger upper = BigInteger.ZERO;
        for (int k = 0; k < 6; k++) {
            upper = upper.add(BigInteger.valueOf(50).multiply(BigInteger.valueOf(319).pow(k))
                .multiply(BigInteger.valueOf(64).pow(5 - k)));
        }
        BigInteger lower = BigInteger.valueOf(64).pow(5);
        BigInteger common = upper.gcd(lower);
        dueParts("at 319 by 64, where NODE 127 begins", upper.divide(common).longValueExact(),
            lower.divide(common).longValueExact(), x.control(127, 2, 0, 0), x.control(127, 2, 0, 1));
    }

    private static void leastTerms() {
        by("Fractions are in least terms, the lower number above 0.");
        for (int from = 1; from < 128; from += 16) {
            ControlSigns x = told("p-7 3-5 0 2-50;b-5 4;");
            for (int node = from; node < from + 16 && node < 128; node++) {
                dueLeast("control at " + node, x.control(node, 1, 3, 0), x.control(node, 1, 3, 1));
                dueLeast("value at " + node, x.value(node, 1, 0), x.value(node, 1, 1));
                dueLeast("end of " + node, x.end(node, 0, 0), x.end(node, 0, 1));
                dueLeast("narrowed " + node % 21, x.narrowed(node % 21, 0, 0), x.narrowed(node % 21, 0, 1));
            }
        }
        ControlSigns x = told("p0;p-1 1;b-1 1;");
        dueParts("0", 0, 1, x.control(100, 2, 1, 0), x.control(100, 2, 1, 1));
        dueParts("0 as a value", 0, 1, x.value(100, 1, 0), x.value(100, 1, 1));
        dueParts("0 as an end", 0, 1, x.end(2, 1, 0), x.end(2, 1, 1));
        dueParts("0 as a WITNESS", -1, 1, x.witness(0), x.witness(1));
        dueParts("0 as LOWER", 0, 1, x.narrowed(9, 0, 0), x.narrowed(9, 0, 1));
        x.takes(1, 0);
        dueParts("below 0", -3, 2, x.value(4, 1, 0), x.value(4, 1, 1));
        dueParts("below 0, an end", -1, 2, x.end(4, 1, 0), x.end(4, 1, 1));
    }

    private static void dueLeast(String what, long upper, long lower) {
        due(what + ": the lower number is above 0", 1, lower > 0 ? 1 : 0);
        due(what + ": " + upper + " by " + lower + " is in least terms", 1,
            BigInteger.valueOf(upper).gcd(BigInteger.valueOf(lower)).longValue());
    }

    // ---- promise 13

    private static void variationNodes() {
        by("VARIATION over a NODE, RAISED by r.");
        ControlSigns x = told("p1-3 3;b0 1;");
        due("variation(1, 0)", 2, x.variation(1, 0));
        due("variation(1, 1)", 0, x.variation(1, 1));
        due("variation(1, 2)", 0, x.variation(1, 2));
        due("five roots", 5, sizes(1).variation(1, 0));
        due("five roots, RAISED", 5, sizes(1).variation(1, 2));
        due("NODE 127", 0, sizes(1).variation(127, 0));
        ControlSigns y = told("p-49 50;b0 1;");
        due("NODE 126", 1, y.variation(126, 0));
        due("NODE 127", 0, y.variation(127, 0));

        by("Promise 13: BAD: a NODE (1 .. 127)");
        for (int node : new int[] {0, 128, -1, 255, 257, 1 << 30, LEAST, LEAST + 1, MOST}) {
            refused("variation(" + node + ", 0)", BAD, Edges::rich, z -> z.variation(node, 0));
        }
        by("Promise 13: BAD: RAISED by r (0 .. 2)");
        for (int r : new int[] {-1, 3, 256, LEAST, MOST}) {
            refused("variation(1, " + r + ")", BAD, Edges::rich, z -> z.variation(1, r));
        }
    }

    private static void variationNoughts() {
        by("VARIATION: 0s being left out");
        String[] texts = {"p1-2 2;", "p1-2 0;", "p0 2-3;", "p1-4 3;", "p1-3 3 0;", "p1-3 3-2;", "p0 0 0 0 0 1;", "p0 0;", "p0;", "p-5;"};
        String[] rows = {"1 0 1", "1 0 -1", "0 1 -1", "1 -1 0", "1 0 0 1", "1 0 0 -1", "0 0 0 0 0 1", "0 0", "0", "-5"};
        int[] changes = {0, 1, 1, 1, 0, 1, 0, 0, 0, 0};
        for (int k = 0; k < texts.length; k++) {
            ControlSigns x = told(texts[k] + "b0 1;");
            String row = "";
            for (int i = 0; i <= x.count(4); i++) {
                row += (i == 0 ? "" : " ") + x.control(1, 0, i, 0);
            }
            dueText("the row of " + texts[k], rows[k], row);
            due("variation(1, 0) of " + rows[k], changes[k], x.variation(1, 0));
        }
    }

    private static void variationState() {
        by("Promise 13: STATE");
        due("with nothing", STATE, new ControlSigns().variation(1, 0));
        due("without BOXES", STATE, told("p1;").variation(1, 0));
        due("without POLYNOMIALS", STATE, told("b0 1;").variation(1, 0));
        by("the first of these: BAD, STATE (variation)");
        due("variation(0, 0)", BAD, new ControlSigns().variation(0, 0));
        due("variation(128, 0)", BAD, new ControlSigns().variation(128, 0));
        due("variation(1, 3)", BAD, new ControlSigns().variation(1, 3));
        due("variation(1, -1)", BAD, new ControlSigns().variation(1, -1));
    }

    // ---- promises 14 and 15

    private static void end() {
        by("LO (which = 0), HI (1) of a NODE: upper (what = 0), lower number (1).");
        ControlSigns x = told("p1;b-5 4;");
        dueParts("LO of 1", -5, 1, x.end(1, 0, 0), x.end(1, 0, 1));
        dueParts("HI of 1", 4, 1, x.end(1, 1, 0), x.end(1, 1, 1));
        dueParts("HI of 2", -1, 2, x.end(2, 1, 0), x.end(2, 1, 1));
        dueParts("LO of 3", -1, 2, x.end(3, 0, 0), x.end(3, 0, 1));
        dueParts("HI of 63", 4, 1, x.end(63, 1, 0), x.end(63, 1, 1));
        dueParts("LO of 63", 119, 32, x.end(63, 0, 0), x.end(63, 0, 1));
        dueParts("LO of 64", -5, 1, x.end(64, 0, 0), x.end(64, 0, 1));
        dueParts("HI of 64", -311, 64, x.end(64, 1, 0), x.end(64, 1, 1));
        dueParts("LO of 127", 247, 64, x.end(127, 0, 0), x.end(127, 0, 1));
        dueParts("HI of 127", 4, 1, x.end(127, 1, 0), x.end(127, 1, 1));

        by("the halves of NODE m are 2 m (the lower one) and 2 m and 1");
        for (int m = 1; m < 64; m += 9) {
            due("LO of " + 2 * m, x.end(m, 0, 0), x.end(2 * m, 0, 0));
            due("HI of " + (2 * m + 1), x.end(m, 1, 0), x.end(2 * m + 1, 1, 0));
            due("the middle of " + m, x.end(2 * m, 1, 0), x.end(2 * m + 1, 0, 0));
        }
    }

    private static void endRefused() {
        by("Promise 14: NO: BAD, STATE.");
        for (int node : new int[] {0, 128, -1, 255, 257, 1 << 30, LEAST, LEAST + 1, MOST}) {
            refused("end(" + node + ", 0, 0)", NO, Edges::rich, x -> x.end(node, 0, 0));
        }
        for (int which : new int[] {-1, 2, 256, LEAST, MOST}) {
            refused("end(1, " + which + ", 0)", NO, Edges::rich, x -> x.end(1, which, 0));
        }
        for (int what : new int[] {-1, 2, 256, LEAST, MOST}) {
            refused("end(1, 0, " + what + ")", NO, Edges::rich, x -> x.end(1, 0, what));
        }
        due("with nothing", NO, new ControlSigns().end(1, 0, 0));
        due("without BOXES", NO, told("p1;").end(1, 0, 0));
    }

    private static void value() {
        by("What the POLYNOMIAL is at LO (which = 0), at HI (1) of a NODE: upper (what = 0), lower number (1).");
        ControlSigns x = told("p1 2 3;b-2 3;p-7;");
        dueParts("at LO of 1", 9, 1, x.value(1, 0, 0), x.value(1, 0, 1));
        dueParts("at HI of 1", 34, 1, x.value(1, 1, 0), x.value(1, 1, 1));
        dueParts("at HI of 2", 11, 4, x.value(2, 1, 0), x.value(2, 1, 1));
        dueParts("at LO of 3", 11, 4, x.value(3, 0, 0), x.value(3, 0, 1));
        dueParts("at LO of 64", 9, 1, x.value(64, 0, 0), x.value(64, 0, 1));
        dueParts("at HI of 127", 34, 1, x.value(127, 1, 0), x.value(127, 1, 1));
        x.takes(1, 0);
        dueParts("n is 0", -7, 1, x.value(99, 1, 0), x.value(99, 1, 1));
        ControlSigns y = told(LARGEST);
        due("the most", 195300, y.value(1, 1, 0));
        due("the least", -130200, y.value(1, 0, 0));
    }

    private static void valueRefused() {
        by("Promise 15: NO: BAD, STATE.");
        for (int node : new int[] {0, 128, -1, 255, 257, 1 << 30, LEAST, LEAST + 1, MOST}) {
            refused("value(" + node + ", 0, 0)", NO, Edges::rich, x -> x.value(node, 0, 0));
        }
        for (int which : new int[] {-1, 2, 256, LEAST, MOST}) {
            refused("value(1, " + which + ", 0)", NO, Edges::rich, x -> x.value(1, which, 0));
        }
        for (int what : new int[] {-1, 2, 256, LEAST, MOST}) {
            refused("value(1, 0, " + what + ")", NO, Edges::rich, x -> x.value(1, 0, what));
        }
        due("with nothing", NO, new ControlSigns().value(1, 0, 0));
        due("without BOXES", NO, told("p1;").value(1, 0, 0));
        due("without POLYNOMIALS", NO, told("b0 1;").value(1, 0, 0));
    }

    // ---- promises 16 and 17

    private static void noVariation() {
        by("BRACKETS: VARIATION (not RAISED) 0: none.");
        String[] texts = {"p5;b0 1;", "p0;b0 1;", "p0 0 0;b-1 1;", "p0 1;b0 1;", "p1-1;b0 1;", "p0-1 1;b0 1;", "p1-2 2;b0 1;"};
        for (String text : texts) {
            due("brackets() of " + text, 0, told(text).brackets());
            due("bracket(0, 0) of " + text, NONE, told(text).bracket(0, 0));
        }
    }

    private static void oneVariation() {
        by("BRACKETS: 1: the NODE (kind 0).");
        dueText("a root at the middle is not halved", "1/0", bracketsOf(told("p0 1;b-1 1;")));
        dueText("a root that is no middle", "1/0", bracketsOf(told("p-1 3;b0 1;")));
        dueText("a root that is 0 at LO, too", "1/0", bracketsOf(told("p0-1 2;b0 1;")));
        dueText("NODES of 64 and more: kind 0 as well", "64/0 65/0", bracketsOf(told("p13-14-42 32 48;b-1 4;")));
        dueText("NODE 127", "126/0 127/0", bracketsOf(told("p13 14-42-32 48;b-4 1;")));
    }

    private static void moreVariation() {
        by("BRACKETS: 2 and more: those of its lower half, then its middle, if the POLYNOMIAL is 0 there (kind 1), then its upper half");
        dueText("five roots, from left to right", "4/0 5/0 1/1 6/0 7/0", bracketsOf(sizes(1)));
        dueText("twice a root at the middle", "1/1", bracketsOf(told("p0 0 1;b-2 2;")));
        dueText("three times a root at the middle", "1/1", bracketsOf(told("p0 0 0 1;b-1 1;")));
        dueText("a middle that is no root", "2/0 3/0", bracketsOf(told("p-1 0 1;b-2 2;")));
        dueText("two that are no roots", "", bracketsOf(told("p1-3 3;b0 1;")));
        dueText("a middle of a middle", "2/1 3/1", bracketsOf(told("p1 0-2 0 1;b-2 2;")));
        dueText("the middle and above it", "1/1 3/0", bracketsOf(told("p6-5 1;b0 4;")));
        dueText("a root below the BOX does not count", "1/1 3/0", bracketsOf(told("p6 1-4 1;b0 4;")));
        dueText("a root above the BOX does not count", "1/1 3/0", bracketsOf(told("p-30 31-10 1;b0 4;")));
        dueText("roots below and above the BOX alone", "", bracketsOf(told("p-5-4 1;b0 4;")));
        dueText("roots at both ends do not count", "", bracketsOf(told("p0-4 1;b0 4;")));
        due("VARIATION is 2 there", 2, told("p6-5 1;b0 4;").variation(1, 0));
    }

    private static void lastHalving() {
        by("BRACKETS: of NODES 64 and more the NODE (kind 2)");
        ControlSigns x = told("p38 45 0 37 45;b-1 5;");
        due("VARIATION over 64", 2, x.variation(64, 0));
        dueText("NODE 64", "64/2", bracketsOf(x));
        ControlSigns y = told("p38-45 0-37 45;b-5 1;");
        due("VARIATION over 127", 2, y.variation(127, 0));
        dueText("NODE 127", "127/2", bracketsOf(y));
        dueText("twice a root that no middle is", "85/2", bracketsOf(told("p1-6 9;b0 1;")));

        by("BRACKETS: NODES below 64 are halved");
        ControlSigns z = told("p-1-13-44;b-5 0;");
        due("VARIATION over 63", 2, z.variation(63, 0));
        dueText("NODE 63", "", bracketsOf(z));
        ControlSigns w = told("p-1 13-44;b0 5;");
        due("VARIATION over 32", 2, w.variation(32, 0));
        dueText("NODE 32", "", bracketsOf(w));
        dueText("the middle of NODE 48", "48/1 97/0", bracketsOf(told("p1-14 48;b-4 4;")));
    }

    private static void bracketParts() {
        by("The k-th BRACKET (0 on): 0 its NODE (of kind 1 the one whose middle it is), 1 its kind; NONE.");
        ControlSigns x = sizes(1);
        due("brackets()", 5, x.brackets());
        due("bracket(2, 0)", 1, x.bracket(2, 0));
        due("bracket(2, 1)", 1, x.bracket(2, 1));
        due("the last", 7, x.bracket(4, 0));
        due("the last, its kind", 0, x.bracket(4, 1));
        for (int k : new int[] {5, 6, 126, 127, 128, 256, 65536, 1 << 30, MOST}) {
            due("bracket(" + k + ", 0)", NONE, x.bracket(k, 0));
            due("bracket(" + k + ", 1)", NONE, x.bracket(k, 1));
        }
        ControlSigns y = told("p6-5 1;b0 4;p1;");
        due("two of them", 2, y.brackets());
        y.takes(1, 0);
        due("none of the old ones", NONE, y.bracket(0, 0));
        y.takes(0, 0);
        due("without brackets() ahead of it", 3, told("p6-5 1;b0 4;").bracket(1, 0));
    }

    private static void bracketRefused() {
        by("Promise 17: BAD (k below 0)");
        for (int k : new int[] {-1, -2, LEAST, LEAST + 1}) {
            refused("bracket(" + k + ", 0)", BAD, Edges::rich, x -> x.bracket(k, 0));
        }
        by("Promise 17: BAD: what is 0 or 1");
        for (int what : new int[] {-1, 2, 256, LEAST, MOST}) {
            refused("bracket(0, " + what + ")", BAD, Edges::rich, x -> x.bracket(0, what));
            due("bracket(99, " + what + ")", BAD, rich().bracket(99, what));
        }
        by("Promises 16 and 17: STATE");
        ControlSigns[] lacking = {new ControlSigns(), told("p1;"), told("b0 1;")};
        for (ControlSigns x : lacking) {
            due("brackets()", STATE, x.brackets());
            due("bracket(0, 0)", STATE, x.bracket(0, 0));
            due("bracket(99, 1)", STATE, x.bracket(99, 1));
            due("bracket(-1, 0): BAD is first", BAD, x.bracket(-1, 0));
            due("bracket(0, 2): BAD is first", BAD, x.bracket(0, 2));
        }
    }
}
