import java.math.BigInteger;
import java.util.ArrayList;
import java.util.List;

/**
 * What 'What it is' and 'Terms' say in general, over many POLYNOMIALS, BOXES and NODES: each answer is put beside what
 * the document's words make of the answers that stand ahead of it (ends, then CONTROL, then what is told by CONTROL).
 */
public final class TermsTest extends Edges {
    private static final String[] TEXTS = {
        "p5;b0 1;", "p0;b-5 5;", "p-3 2;b-1 4;", "p3 0 0;b2 5;", "p6-5 1;b0 4;", "p1-2 2;b0 1;", "p1-3 4;b0 1;", "p1-4 8;b0 1;",
        "p1-6 9;b0 1;", "p1-8 17;b-5 5;", "p0 4 0-5 0 1;b-3 3;", "p0 4 0-5 0 1;b-5 5;", "p50-50 50-50 50-50;b-5 5;",
        "p-50-50-50-50-50-50;b-5-4;", "p38 45 0 37 45;b-1 5;", "p38-45 0-37 45;b-5 1;", "p13-14-42 32 48;b-1 4;",
        "p7-31 0 0 1-2;b-4 3;", "p1 0-2 0 1;b-2 2;", "p0 0 0 0 0 1;b-1 1;", "p25-32 3-33 39;b-5 1;", "p-2 0-1 0 1;b-2 2;",
        "p26 0-50 0 25;b-5 5;", "p0-1-1 1 1;b-2 5;", "p0 1-1-1 1;b-5 2;", "p33-37 10;b0 5;", "p3 0-3-1 3;b-4 4;"
    };

    public static void main(String[] args) {
        powers();
        for (String text : TEXTS) {
            Fresh x = new Fresh(() -> told(text), text.length() + 1);
            nodes(text, x);
            controlAtAllPlaces(text, x);
            variations(text, x);
            valuesAtEnds(text, x);
            bracketsByWords(text, x);
            papersByWords(text, x);
            papersProve(text, x);
            narrowedByWords(text, x);
            boundsNarrower(text, x);
        }
        whatIsTaken();
        rootsOnce();
        wishesByWords();
        seenByValues();
        allUndone();
        noIsForNumbersBelowNought();
        finish();
    }

    /** A fraction of big numbers, in least terms, the lower number above 0. */
    private static final class Fraction implements Comparable<Fraction> {
        final BigInteger upper;
        final BigInteger lower;

        Fraction(BigInteger upper, BigInteger lower) {
            BigInteger common = upper.gcd(lower);
            BigInteger divisor = lower.signum() < 0 ? common.negate() : common;
            this.upper = upper.divide(divisor);
            this.lower = lower.divide(divisor);
        }

        Fraction(long upper, long lower) {
            this(BigInteger.valueOf(upper), BigInteger.valueOf(lower));
        }

        Fraction plus(Fraction other) {
            return new Fraction(upper.multiply(other.lower).add(other.upper.multiply(lower)), lower.multiply(other.lower));
        }

        Fraction times(Fraction other) {
            return new Fraction(upper.multiply(other.upper), lower.multiply(other.lower));
        }

        Fraction times(long number) {
            return times(new Fraction(number, 1));
        }

        int sign() {
            return upper.signum();
        }

        @Override
        public int compareTo(Fraction other) {
            return upper.multiply(other.lower).compareTo(other.upper.multiply(lower));
        }

        @Override
        public String toString() {
            return upper + "/" + lower;
        }
    }

    /** Asks an object, and makes it again before it has been used for more than 512 calls. */
    private static final class Fresh {
        private final Maker maker;
        private final int callsToMake;
        private ControlSigns x;
        private int left = 0;

        Fresh(Maker maker, int callsToMake) {
            this.maker = maker;
            this.callsToMake = callsToMake;
        }

        ControlSigns next() {
            if (left == 0) {
                x = maker.made();
                left = 512 - callsToMake;
            }
            left--;
            return x;
        }

        Fraction end(int node, int which) {
            return new Fraction(next().end(node, which, 0), next().end(node, which, 1));
        }

        Fraction value(int node, int which) {
            return new Fraction(next().value(node, which, 0), next().value(node, which, 1));
        }

        Fraction narrowed(int n, int which) {
            return new Fraction(next().narrowed(n, which, 0), next().narrowed(n, which, 1));
        }

        int degree() {
            return next().count(4);
        }

        /** A row of CONTROL. */
        Fraction[] control(int node, int r) {
            Fraction[] row = new Fraction[degree() + r + 1];
            for (int i = 0; i < row.length; i++) {
                row[i] = new Fraction(next().control(node, r, i, 0), next().control(node, r, i, 1));
            }
            return row;
        }

        /** What the POLYNOMIAL is at a place, by its COEFFICIENTS. */
        Fraction at(Fraction place) {
            int p = next().count(2);
            Fraction sum = new Fraction(0, 1);
            for (int k = degree(); k >= 0; k--) {
                sum = sum.times(place).plus(new Fraction(next().coef(p, k), 1));
            }
            return sum;
        }
    }

    private static void dueSame(String what, Fraction want, Fraction got) {
        dueText(what, want.toString(), got.toString());
    }

    private static boolean allHave(Fraction[] row, int sign) {
        for (Fraction number : row) {
            if (number.sign() != sign) {
                return false;
            }
        }
        return true;
    }

    private static Fraction least(Fraction[] row) {
        Fraction least = row[0];
        for (Fraction number : row) {
            least = number.compareTo(least) < 0 ? number : least;
        }
        return least;
    }

    // ---- section 1 of 'Terms'

    private static void powers() {
        by("COEFFICIENTS of x to the power of 0, 1, ..");
        for (int k = 0; k < 6; k++) {
            ControlSigns x = told("p" + " 0".repeat(k) + " 1;b-3 2;");
            due("-3 to the power of " + k, (long) Math.pow(-3, k), x.value(1, 0, 0));
            due("2 to the power of " + k, (long) Math.pow(2, k), x.value(1, 1, 0));
            due("n", k, x.count(4));
        }
        due("all six of them, at 5", 1 + 2 * 5 + 3 * 25 + 4 * 125 + 5 * 625 + 6 * 3125, told("p1 2 3 4 5 6;b4 5;").value(1, 1, 0));
    }

    // ---- section 2

    private static void nodes(String text, Fresh x) {
        by("NODES of a BOX: 1 is all of it; a NODE lies from LO to HI: " + text);
        dueSame("LO of 1", new Fraction(x.next().box(0, 0), 1), x.end(1, 0));
        dueSame("HI of 1", new Fraction(x.next().box(0, 1), 1), x.end(1, 1));
        by("the halves of NODE m are 2 m (the lower one) and 2 m and 1; to 127: " + text);
        Fraction half = new Fraction(1, 2);
        for (int m = 1; m < 64; m++) {
            Fraction middle = x.end(m, 0).plus(x.end(m, 1)).times(half);
            dueSame("LO of " + 2 * m, x.end(m, 0), x.end(2 * m, 0));
            dueSame("HI of " + 2 * m, middle, x.end(2 * m, 1));
            dueSame("LO of " + (2 * m + 1), middle, x.end(2 * m + 1, 0));
            dueSame("HI of " + (2 * m + 1), x.end(m, 1), x.end(2 * m + 1, 1));
        }
    }

    /** The sum of c i times (N over i) times t to the power of i times (1 less t) to the power of N less i. */
    private static Fraction sum(Fraction[] row, Fraction t) {
        Fraction rest = new Fraction(1, 1).plus(t.times(-1));
        int top = row.length - 1;
        Fraction sum = new Fraction(0, 1);
        long ways = 1;
        for (int i = 0; i <= top; i++) {
            Fraction part = row[i].times(ways);
            for (int k = 0; k < top; k++) {
                part = part.times(k < i ? t : rest);
            }
            sum = sum.plus(part);
            ways = ways * (top - i) / (i + 1);
        }
        return sum;
    }

    /** Two sums of powers up to N that are the same at more than N places are the same for all t. */
    private static void controlAtAllPlaces(String text, Fresh x) {
        by("CONTROL: it is, at LO and t times (HI less LO), the sum of c i times (N over i) times .., for all t: " + text);
        for (int node = 1; node < 128; node += node < 8 || node > 120 ? 1 : 7) {
            Fraction low = x.end(node, 0);
            Fraction wide = x.end(node, 1).plus(low.times(-1));
            for (int r = 0; r <= 2; r++) {
                Fraction[] row = x.control(node, r);
                for (int j = -1; j <= row.length; j++) {
                    Fraction t = new Fraction(j, 3);
                    dueSame("NODE " + node + ", RAISED by " + r + ", t = " + t, x.at(low.plus(t.times(wide))), sum(row, t));
                }
            }
        }
    }

    private static void variations(String text, Fresh x) {
        by("VARIATION: how many times a number of this row has another sign than the one before it, 0s being left out: " + text);
        for (int node = 1; node < 128; node++) {
            for (int r = 0; r <= 2; r++) {
                int changes = 0;
                int before = 0;
                for (Fraction number : x.control(node, r)) {
                    changes += number.sign() * before < 0 ? 1 : 0;
                    before = number.sign() == 0 ? before : number.sign();
                }
                due("variation(" + node + ", " + r + ")", changes, x.next().variation(node, r));
            }
        }
    }

    private static void valuesAtEnds(String text, Fresh x) {
        by("What the POLYNOMIAL is at LO, at HI of a NODE: " + text);
        for (int node = 1; node < 128; node++) {
            for (int which = 0; which <= 1; which++) {
                dueSame("value(" + node + ", " + which + ")", x.at(x.end(node, which)), x.value(node, which));
            }
        }
    }

    // ---- section 3: what is TAKEN

    private static final String[] POLYNOMIALS = {"p6-5 1;", "p1-4 8;", "p-3 2 0 1-1 2;"};
    private static final String[] BOXES = {"b0 4;", "b-5 5;", "b-1 1;"};

    /** Of each POLYNOMIAL over each BOX all is as if there were no other ones. */
    private static void whatIsTaken() {
        by("Of what is TAKEN: as if it were told alone");
        String text = String.join("", POLYNOMIALS) + String.join("", BOXES);
        for (int p = 0; p < POLYNOMIALS.length; p++) {
            for (int box = 0; box < BOXES.length; box++) {
                List<Long> want = asked(told(POLYNOMIALS[p] + BOXES[box]));
                List<Long> got = asked(taking(text, p, box));
                for (int k = 0; k < want.size(); k++) {
                    due("question " + k + " of " + POLYNOMIALS[p] + BOXES[box], want.get(k), got.get(k));
                }
            }
        }
    }

    private static List<Long> asked(ControlSigns x) {
        List<Long> all = new ArrayList<>();
        write(x, "s00");
        for (int node : new int[] {1, 2, 3, 38, 64, 101, 127}) {
            for (int what = 0; what <= 1; what++) {
                all.add(x.control(node, 1, 2, what));
                all.add(x.end(node, 0, what));
                all.add(x.end(node, 1, what));
                all.add(x.value(node, 0, what));
                all.add(x.value(node, 1, what));
                all.add(x.narrowed(node % 8, 0, what));
                all.add(x.narrowed(node % 8, 1, what));
                all.add((long) x.variation(node, what));
                all.add((long) x.bracket(node % 4, what));
                all.add((long) x.paper(node % 8 - 1));
            }
        }
        all.add((long) x.brackets());
        all.add((long) x.makes());
        all.add(x.witness(0));
        all.add(x.witness(1));
        all.add((long) x.proves());
        all.add((long) x.count(4));
        return all;
    }

    // ---- BRACKETS

    private static void addBrackets(List<String> all, Fresh x, int node) {
        int variation = x.next().variation(node, 0);
        if (variation == 1) {
            all.add(node + "/0");
        } else if (variation >= 2 && node >= 64) {
            all.add(node + "/2");
        } else if (variation >= 2) {
            addBrackets(all, x, 2 * node);
            if (x.value(2 * node, 1).sign() == 0) {
                all.add(node + "/1");
            }
            addBrackets(all, x, 2 * node + 1);
        }
    }

    private static void bracketsByWords(String text, Fresh x) {
        by("BRACKETS, from left to right, by NODE 1: " + text);
        List<String> all = new ArrayList<>();
        addBrackets(all, x, 1);
        dueText("BRACKETS", String.join(" ", all), bracketsOf(told(text)));
    }

    /** POLYNOMIALS whose roots are whole and simple, over all BOXES. */
    private static void rootsOnce() {
        by("roots shut in, each simple one once");
        int[][] sets = {{0}, {5}, {-5, 5}, {2, 3}, {-1, 0, 1}, {-4, 1, 3}, {-2, -1, 0, 1}, {-3, -1, 1, 3}, {-2, -1, 0, 1, 2},
            {-3, -2, 0, 1, 2}, {-5, 0, 5}};
        for (int[] roots : sets) {
            String p = withRoots(roots);
            for (int a = -5; a < 5; a++) {
                for (int b = a + 1; b <= 5; b++) {
                    shutIn(p + "b" + a + " " + b + ";", roots, a, b);
                }
            }
        }
    }

    private static String withRoots(int[] roots) {
        long[] row = {1, 0, 0, 0, 0, 0};
        for (int root : roots) {
            for (int k = 5; k > 0; k--) {
                row[k] = row[k - 1] - root * row[k];
            }
            row[0] *= -root;
        }
        StringBuilder text = new StringBuilder("p");
        for (int k = 0; k <= roots.length; k++) {
            text.append(' ').append(row[k]);
        }
        return text.append(';').toString();
    }

    private static void shutIn(String text, int[] roots, int a, int b) {
        Fresh x = new Fresh(() -> told(text), text.length() + 1);
        int inside = 0;
        for (int root : roots) {
            if (a < root && root < b) {
                inside++;
                due("how often " + root + " is shut in, " + text, 1, timesShutIn(x, new Fraction(root, 1)));
            }
        }
        due("brackets() of " + text, inside, x.next().brackets());
    }

    private static int timesShutIn(Fresh x, Fraction root) {
        int times = 0;
        int size = x.next().brackets();
        for (int k = 0; k < size; k++) {
            int node = x.next().bracket(k, 0);
            if (x.next().bracket(k, 1) == 1) {
                times += x.end(2 * node, 1).compareTo(root) == 0 ? 1 : 0;
            } else {
                times += x.end(node, 0).compareTo(root) < 0 && root.compareTo(x.end(node, 1)) < 0 ? 1 : 0;
            }
        }
        return times;
    }

    // ---- PAPERS

    /** Adds THE PAPER of a NODE; WITNESS, UNSURE with the place or the NODE in its stead, or 0. */
    private static int addPaper(StringBuilder letters, Fresh x, int node) {
        for (int r = 0; r <= 2; r++) {
            if (allHave(x.control(node, r), 1)) {
                letters.append(r);
                return 0;
            }
        }
        for (int which = 0; which <= 1; which++) {
            if (x.value(node, which).sign() <= 0) {
                letters.setLength(0);
                letters.append(x.end(node, which));
                return WITNESS;
            }
        }
        if (node >= 64) {
            letters.setLength(0);
            return UNSURE;
        }
        letters.append('s');
        int lower = addPaper(letters, x, 2 * node);
        return lower == 0 ? addPaper(letters, x, 2 * node + 1) : lower;
    }

    private static void papersByWords(String text, Fresh x) {
        by("THE PAPER, by NODE 1: " + text);
        StringBuilder letters = new StringBuilder();
        int ended = addPaper(letters, x, 1);
        due("makes()", ended == 0 ? letters.length() : ended, x.next().makes());
        dueText("its letters", ended == 0 ? letters.toString() : "", paperOf(told(text)));
        if (ended == WITNESS) {
            dueText("the WITNESS", letters.toString(), x.next().witness(0) + "/" + x.next().witness(1));
            Fraction place = new Fraction(x.next().witness(0), x.next().witness(1));
            due("where it is not above 0", 1, x.at(place).sign() <= 0 ? 1 : 0);
        } else {
            due("no WITNESS", NO, x.next().witness(0));
        }
    }

    private static void papersProve(String text, Fresh x) {
        by("papers that prove that a polynomial is above nought all over a box, made, and read: " + text);
        String paper = paperOf(told(text));
        if (paper.isEmpty()) {
            return;
        }
        due("proves() of " + paper, 1, proves(text, paper));
        for (int node = 64; node < 128; node++) {
            due("above 0 at LO of " + node, 1, x.value(node, 0).sign());
            due("above 0 at HI of " + node, 1, x.value(node, 1).sign());
        }
        due("with each figure 2", 1, proves(text, paper.replace('0', '2').replace('1', '2')));
        due("one letter less", -10 - (paper.length() - 1), proves(text, paper.substring(0, paper.length() - 1)));
        due("one letter more", -10 - paper.length(), proves(text, paper + "0"));
    }

    // ---- bounds

    /** NODES from left to right, NARROWED once more; whether it was. */
    private static boolean narrow(List<Integer> nodes, Fresh x) {
        int found = 0;
        Fraction lowest = least(x.control(nodes.get(0), 0));
        for (int at = 1; at < nodes.size(); at++) {
            Fraction least = least(x.control(nodes.get(at), 0));
            if (least.compareTo(lowest) < 0) {
                lowest = least;
                found = at;
            }
        }
        int node = nodes.get(found);
        if (node >= 64) {
            return false;
        }
        nodes.set(found, 2 * node);
        nodes.add(found + 1, 2 * node + 1);
        return true;
    }

    private static void narrowedByWords(String text, Fresh x) {
        by("NARROWED n times: LOWER, UPPER: " + text);
        List<Integer> nodes = new ArrayList<>(List.of(1));
        boolean goesOn = true;
        for (int n = 0; n <= 20; n++) {
            if (n > 0 && goesOn) {
                goesOn = narrow(nodes, x);
            }
            Fraction lower = null;
            Fraction upper = null;
            for (int node : nodes) {
                Fraction least = least(x.control(node, 0));
                Fraction end = least(new Fraction[] {x.value(node, 0), x.value(node, 1)});
                lower = lower == null || least.compareTo(lower) < 0 ? least : lower;
                upper = upper == null || end.compareTo(upper) < 0 ? end : upper;
            }
            dueSame(n + " times, LOWER", lower, x.narrowed(n, 0));
            dueSame(n + " times, UPPER", upper, x.narrowed(n, 1));
        }
    }

    private static void boundsNarrower(String text, Fresh x) {
        by("bounds made narrower by halving what lies lowest: " + text);
        for (int n = 1; n <= 20; n++) {
            due("LOWER never falls, " + n, 1, x.narrowed(n, 0).compareTo(x.narrowed(n - 1, 0)) >= 0 ? 1 : 0);
            due("UPPER never rises, " + n, 1, x.narrowed(n, 1).compareTo(x.narrowed(n - 1, 1)) <= 0 ? 1 : 0);
        }
        Fraction lower = x.narrowed(20, 0);
        for (int node = 64; node < 128; node++) {
            due("nowhere below LOWER, LO of " + node, 1, x.value(node, 0).compareTo(lower) >= 0 ? 1 : 0);
        }
        due("LOWER is not above UPPER", 1, lower.compareTo(x.narrowed(20, 1)) <= 0 ? 1 : 0);
    }

    // ---- WISHES

    private static final int HELD = 0, BROKEN = 1, DOUBTFUL = 2;

    private static int verdict(Fresh[] each, int[] signs, int node) {
        boolean isHeld = true;
        boolean isBroken = false;
        for (int p = 0; p < each.length; p++) {
            if (signs[p] != 0) {
                Fraction[] row = each[p].control(node, 0);
                isHeld = isHeld && allHave(row, signs[p]);
                isBroken = isBroken || allHave(row, -signs[p]);
            }
        }
        return isHeld ? HELD : isBroken ? BROKEN : DOUBTFUL;
    }

    private static void share(int[] shares, Fresh[] each, int[] signs, int node) {
        int verdict = verdict(each, signs, node);
        if (verdict == DOUBTFUL && node < 64) {
            share(shares, each, signs, 2 * node);
            share(shares, each, signs, 2 * node + 1);
        } else {
            shares[verdict] += 64 / Integer.highestOneBit(node);
        }
    }

    private static void wishesByWords() {
        by("signs wanted of several, the first half that has them, how much of a box has, has not, is not sure");
        String text = "p6-5 1;p-3 2 0 1;p26 0-50 0 25;b-5 5;b0 4;b2 3;";
        for (int box = 0; box < 3; box++) {
            int taken = box;
            Fresh[] each = new Fresh[3];
            for (int p = 0; p < 3; p++) {
                int polynomial = p;
                each[p] = new Fresh(() -> taking(text, polynomial, taken), text.length() + 2);
            }
            for (int wishes = 0; wishes < 27; wishes++) {
                wishesOver(taking(text, 1, box), each, new int[] {wishes % 3 - 1, wishes / 3 % 3 - 1, wishes / 9 - 1});
            }
        }
    }

    private static ControlSigns taking(String text, int p, int box) {
        ControlSigns x = told(text);
        x.takes(p, box);
        return x;
    }

    private static void wishesOver(ControlSigns x, Fresh[] each, int[] signs) {
        String when = ", BOX " + x.count(3) + ", WISHES " + signs[0] + " " + signs[1] + " " + signs[2];
        for (int p = 0; p < 3; p++) {
            x.wishes(p, signs[p]);
        }
        int[] shares = new int[3];
        share(shares, each, signs, 1);
        for (int what = 0; what < 3; what++) {
            due("sure(" + what + ")" + when, shares[what], x.sure(what));
        }
        due("all of them" + when, 64, x.sure(0) + x.sure(1) + x.sure(2));
        int first = 1;
        while (first < 128 && verdict(each, signs, first) != HELD) {
            first++;
        }
        due("first()" + when, first < 128 ? first : NONE, x.first());
    }

    // ---- SEEN

    private static void seenByValues() {
        by("which polynomial it is, by signs at whole places");
        String text = "p6-5 1;p-3 2 0 1;p0 4 0-5 0 1;b-5 5;";
        for (int place = -5; place <= 5; place++) {
            for (int sign = -1; sign <= 1; sign++) {
                int bits = 0;
                for (int p = 0; p < 3; p++) {
                    int polynomial = p;
                    Fresh x = new Fresh(() -> taking(text, polynomial, 0), text.length() + 2);
                    bits |= x.at(new Fraction(place, 1)).sign() == sign ? 1 << p : 0;
                }
                ControlSigns x = told(text);
                x.sees(place, sign);
                due("unseen(), " + sign + " at " + place, bits, x.unseen());
            }
        }
    }

    // ---- what is DONE

    private static void allUndone() {
        by("coefficients, ends, wishes changed, undone");
        String text = "p6-5 1;p-3 2;b0 4;b-1 3;";
        ControlSigns x = told(text);
        x.coefs(0, 2, -1);
        x.wishes(1, -1);
        x.ends(0, -5, 5);
        x.coefs(0, 2, 0);
        x.ends(1, 4, 5);
        x.wishes(1, 1);
        x.ends(0, -4, 5);
        x.wishes(0, 1);
        x.coefs(1, 0, 3);
        x.wishes(1, 0);
        for (int left = 9; left >= 0; left--) {
            due("undo()", left, x.undo());
        }
        dueSame("behind ten undo()", told(text), x);
    }

    // ---- NO

    private static void noIsForNumbersBelowNought() {
        by("NO: What is BAD or STATE where a number may be below 0.");
        Call[] bad = {x -> x.coef(0, 3), x -> x.box(0, 2), x -> x.control(0, 0, 0, 0), x -> x.end(0, 0, 0), x -> x.value(0, 0, 0),
            x -> x.witness(2), x -> x.narrowed(21, 0, 0), x -> x.wish(1)};
        Call[] state = {x -> x.control(1, 0, 0, 0), x -> x.end(1, 0, 0), x -> x.value(1, 0, 0), x -> x.witness(0),
            x -> x.narrowed(0, 0, 0)};
        for (int k = 0; k < bad.length; k++) {
            refused("BAD, call " + k, NO, () -> told("p6-5 1;b0 4;"), bad[k]);
        }
        for (String text : new String[] {"", "p6-5 1;", "b0 4;"}) {
            for (int k = 0; k < state.length; k++) {
                refused("STATE, call " + k + " of '" + text + "'", NO, () -> told(text), state[k]);
            }
        }
        by("a number may be below 0: it is no refusal then");
        ControlSigns x = told("p-1-1;b-2-1;");
        due("coef", -1, x.coef(0, 0));
        due("box", -1, x.box(0, 1));
        due("box", -2, x.box(0, 0));
        due("end", -2, x.end(1, 0, 0));
        due("control", 1, x.control(1, 0, 0, 0));
        due("value", 0, x.value(1, 1, 0));
        due("witness", -1, x.witness(0));
        x.ends(0, 0, 1);
        due("control", -1, x.control(1, 0, 0, 0));
        due("control", -2, x.control(1, 0, 1, 0));
        due("value", -1, x.value(1, 0, 0));
        due("narrowed", -2, x.narrowed(0, 0, 0));
        x.wishes(0, -1);
        due("wish", -1, x.wish(0));
    }
}
