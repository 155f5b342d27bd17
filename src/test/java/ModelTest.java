import java.math.BigInteger;
import java.util.ArrayList;
import java.util.Arrays;
import java.util.List;
import java.util.Random;

/**
 * Many runs of calls, the same each time, against a slow model that follows the document's words:
 * fractions of big numbers, CONTROL by the sum of powers, halves by recursion, UNDONE by whole copies.
 */
public final class ModelTest {
    private static final int RUNS = 1500;
    private static final int MOST_TOLD_WRONG = 20;
    /** What an object answers to later calls is free. */
    private static final int MOST_CALLS = 512;

    public static void main(String[] args) {
        Random random = new Random(20261118L);
        int wrong = 0;
        for (int run = 0; run < RUNS && wrong < MOST_TOLD_WRONG; run++) {
            wrong += new Run(random, run).go();
        }
        System.out.println(wrong == 0 ? RUNS + " runs are as the model has them" : wrong + " runs are not as due");
        if (wrong != 0) {
            System.exit(1);
        }
    }

    // ---- a run

    private static final class Run {
        private final Random random;
        private final int number;
        private final ControlSigns real = new ControlSigns();
        private final Model model = new Model();
        private final StringBuilder told = new StringBuilder();
        private int calls;
        private boolean failed;

        Run(Random random, int number) {
            this.random = random;
            this.number = number;
        }

        int go() {
            while (calls < MOST_CALLS - 4 && !failed) {
                if (calls == 0 || random.nextInt(60) == 0) {
                    text(random.nextInt(8) == 0 ? brokenText() : rightText());
                    same("house()", real.house(), model.house());
                } else if (random.nextInt(40) == 0) {
                    same("clear()", real.clear(), model.clear());
                    text(random.nextInt(3) == 0 ? model.ownPaper() : randomPaper());
                    same("proves()", real.proves(), model.proves());
                } else {
                    call();
                }
                if (random.nextInt(200) == 0) {
                    return failed ? 1 : 0;
                }
            }
            return failed ? 1 : 0;
        }

        /** Leaves a call for what reads the text. */
        private void text(String letters) {
            for (int k = 0; k < letters.length() && calls < MOST_CALLS - 1 && !failed; k++) {
                int letter = letters.charAt(k);
                same("type(" + letter + ")", real.type(letter), model.type(letter));
            }
        }

        private void same(String call, long got, long want) {
            calls++;
            told.append(call).append(" = ").append(want).append('\n');
            if (got != want && !failed) {
                failed = true;
                System.out.println("run " + number + ":\n" + told + "but answered " + got);
            }
        }

        private String rightText() {
            StringBuilder s = new StringBuilder();
            int polynomials = random.nextInt(10) == 0 ? 0 : 1 + random.nextInt(3);
            int boxes = random.nextInt(10) == 0 ? 0 : 1 + random.nextInt(2);
            int size = random.nextBoolean() ? 50 : 9;
            for (int p = 0; p < polynomials; p++) {
                s.append('p');
                int coefficients = 1 + random.nextInt(6);
                for (int k = 0; k < coefficients; k++) {
                    s.append(' ').append(random.nextInt(2 * size + 1) - size);
                }
                s.append(random.nextInt(4) == 0 ? "; " : ";");
            }
            for (int b = 0; b < boxes; b++) {
                int lower = random.nextInt(10) - 5;
                int upper = lower + 1 + random.nextInt(5 - lower);
                s.append("b ").append(lower).append(' ').append(upper).append(';');
            }
            return s.toString();
        }

        private String brokenText() {
            StringBuilder s = new StringBuilder(random.nextBoolean() ? rightText() : "");
            String signs = "pb-; 0123456789012345  x";
            int changes = 1 + random.nextInt(s.length() == 0 ? 12 : 3);
            for (int k = 0; k < changes; k++) {
                char sign = signs.charAt(random.nextInt(signs.length()));
                int at = random.nextInt(s.length() + 1);
                if (at < s.length() && random.nextBoolean()) {
                    s.setCharAt(at, sign);
                } else {
                    s.insert(at, sign);
                }
            }
            return s.toString();
        }

        private String randomPaper() {
            StringBuilder s = new StringBuilder();
            branch(s, 1);
            if (random.nextInt(4) == 0) {
                s.insert(random.nextInt(s.length() + 1), "s012 x".charAt(random.nextInt(6)));
            }
            if (random.nextInt(6) == 0) {
                s.setLength(random.nextInt(s.length()));
            }
            return s.toString();
        }

        private void branch(StringBuilder s, int node) {
            if (node < (random.nextInt(20) == 0 ? 128 : 64) && random.nextInt(5) < 2) {
                s.append('s');
                branch(s, 2 * node);
                branch(s, 2 * node + 1);
            } else {
                s.append((char) ('0' + random.nextInt(3)));
            }
        }

        /** A number from 0 to most; seldom one beside these. */
        private int pick(int most) {
            return pick(0, most);
        }

        private int pick(int least, int most) {
            int kind = random.nextInt(60);
            if (kind == 0) {
                return least - 1 - random.nextInt(2);
            }
            if (kind == 1) {
                return most + 1 + random.nextInt(2);
            }
            if (kind == 2) {
                return random.nextBoolean() ? Integer.MIN_VALUE : Integer.MAX_VALUE;
            }
            return least + random.nextInt(most - least + 1);
        }

        private int node() {
            int most = (2 << random.nextInt(7)) - 1;
            return pick(1, most);
        }

        private void call() {
            int a = 0;
            int b = 0;
            int c = 0;
            int d = 0;
            switch (random.nextInt(34)) {
                case 0: a = pick(255); same("type(" + a + ")", real.type(a), model.type(a)); break;
                case 1: same("clear()", real.clear(), model.clear()); break;
                case 2: a = pick(2); b = pick(1); same("takes(" + a + "," + b + ")", real.takes(a, b), model.takes(a, b)); break;
                case 3: a = pick(2); b = pick(5); same("coef(" + a + "," + b + ")", real.coef(a, b), model.coef(a, b)); break;
                case 4: a = pick(1); b = pick(1); same("box(" + a + "," + b + ")", real.box(a, b), model.box(a, b)); break;
                case 5: case 6: a = pick(2); b = pick(5); c = random.nextBoolean() ? pick(-50, 50) : pick(-2, 6);
                    same("coefs(" + a + "," + b + "," + c + ")", real.coefs(a, b, c), model.coefs(a, b, c)); break;
                case 7: a = pick(1); b = pick(-5, 4); c = pick(Math.max(-5, Math.min(b, 4)) + 1, 5);
                    same("ends(" + a + "," + b + "," + c + ")", real.ends(a, b, c), model.ends(a, b, c)); break;
                case 8: case 9: a = pick(2); b = pick(-1, 1); same("wishes(" + a + "," + b + ")", real.wishes(a, b), model.wishes(a, b)); break;
                case 10: same("undo()", real.undo(), model.undo()); break;
                case 11: case 12: a = node(); b = pick(2); c = pick(7); d = pick(1);
                    same("control(" + a + "," + b + "," + c + "," + d + ")", real.control(a, b, c, d), model.control(a, b, c, d)); break;
                case 13: a = node(); b = pick(2); same("variation(" + a + "," + b + ")", real.variation(a, b), model.variation(a, b)); break;
                case 14: a = node(); b = pick(1); c = pick(1); same("end(" + a + "," + b + "," + c + ")", real.end(a, b, c), model.end(a, b, c)); break;
                case 15: a = node(); b = pick(1); c = pick(1); same("value(" + a + "," + b + "," + c + ")", real.value(a, b, c), model.value(a, b, c)); break;
                case 16: same("brackets()", real.brackets(), model.brackets()); break;
                case 17: case 18: a = pick(4); b = pick(1); same("bracket(" + a + "," + b + ")", real.bracket(a, b), model.bracket(a, b)); break;
                case 19: same("makes()", real.makes(), model.makes()); break;
                case 20: a = pick(12); same("paper(" + a + ")", real.paper(a), model.paper(a)); break;
                case 21: a = pick(1); same("witness(" + a + ")", real.witness(a), model.witness(a)); break;
                case 22: same("proves()", real.proves(), model.proves()); break;
                case 23: case 24: a = pick(20); b = pick(1); c = pick(1);
                    same("narrowed(" + a + "," + b + "," + c + ")", real.narrowed(a, b, c), model.narrowed(a, b, c)); break;
                case 25: case 26: a = pick(2); same("sure(" + a + ")", real.sure(a), model.sure(a)); break;
                case 27: same("first()", real.first(), model.first()); break;
                case 28: a = pick(2); same("wish(" + a + ")", real.wish(a), model.wish(a)); break;
                case 29: a = pick(-5, 5); b = pick(-1, 1); same("sees(" + a + "," + b + ")", real.sees(a, b), model.sees(a, b)); break;
                case 30: same("unseen()", real.unseen(), model.unseen());
                    if (random.nextInt(4) == 0) {
                        same("forget()", real.forget(), model.forget());
                    }
                    break;
                case 31: a = pick(1); same("keep(" + a + ")", real.keep(a), model.keep(a)); break;
                case 32: a = pick(1); same("back(" + a + ")", real.back(a), model.back(a)); break;
                default: a = pick(7); same("count(" + a + ")", real.count(a), model.count(a)); break;
            }
        }
    }

    // ---- fractions

    private static final class Fraction implements Comparable<Fraction> {
        static final Fraction ZERO = new Fraction(BigInteger.ZERO, BigInteger.ONE);
        final BigInteger upper;
        final BigInteger lower;

        Fraction(BigInteger upper, BigInteger lower) {
            BigInteger common = upper.gcd(lower);
            this.upper = upper.divide(common);
            this.lower = lower.divide(common);
        }

        static Fraction of(long upper, long lower) {
            return new Fraction(BigInteger.valueOf(upper), BigInteger.valueOf(lower));
        }

        Fraction plus(Fraction o) {
            return new Fraction(upper.multiply(o.lower).add(o.upper.multiply(lower)), lower.multiply(o.lower));
        }

        Fraction times(Fraction o) {
            return new Fraction(upper.multiply(o.upper), lower.multiply(o.lower));
        }

        int sign() {
            return upper.signum();
        }

        long part(int what) {
            return (what == 0 ? upper : lower).longValueExact();
        }

        @Override
        public int compareTo(Fraction o) {
            return upper.multiply(o.lower).compareTo(o.upper.multiply(lower));
        }
    }

    // ---- the model

    private static final class Things {
        final List<int[]> polynomials = new ArrayList<>();
        final List<int[]> boxes = new ArrayList<>();
        final List<Integer> wishes = new ArrayList<>();

        Things copy() {
            Things c = new Things();
            polynomials.forEach(p -> c.polynomials.add(p.clone()));
            boxes.forEach(b -> c.boxes.add(b.clone()));
            c.wishes.addAll(wishes);
            return c;
        }
    }

    private static final class Token {
        final int place;
        final String text;

        Token(int place, String text) {
            this.place = place;
            this.text = text;
        }
    }

    private static final class Fault extends RuntimeException {
        private static final long serialVersionUID = 1L;
        final int place;

        Fault(int place) {
            this.place = place;
        }
    }

    private static final class Model {
        private static final long NO = -(1L << 62);
        private static final int BAD = -1, STATE = -2, FULL = -3, NONE = -9, WITNESS = -7, UNSURE = -8;

        private String text = "";
        private Things things = new Things();
        private final List<Things> before = new ArrayList<>();
        private Things[] images = new Things[2];
        private final List<int[]> seen = new ArrayList<>();
        private int p;
        private int b;

        int type(int letter) {
            if (letter < 0 || letter > 255) {
                return BAD;
            }
            if (text.length() == 120) {
                return FULL;
            }
            text += (char) letter;
            return text.length();
        }

        int clear() {
            int had = text.length();
            text = "";
            return had;
        }

        // -- reading

        private List<Token> tokens;
        private int next;

        int house() {
            Things read;
            try {
                tokens = tokens();
                next = 0;
                read = items();
            } catch (Fault f) {
                return -10 - f.place;
            }
            things = read;
            text = "";
            p = 0;
            b = 0;
            seen.clear();
            before.clear();
            images = new Things[2];
            return things.polynomials.size() + things.boxes.size();
        }

        private List<Token> tokens() {
            List<Token> all = new ArrayList<>();
            int at = 0;
            while (at < text.length()) {
                int from = at++;
                if (Character.isDigit(text.charAt(from))) {
                    while (at < text.length() && Character.isDigit(text.charAt(at))) {
                        at++;
                    }
                }
                if (text.charAt(from) != ' ') {
                    all.add(new Token(from, text.substring(from, at)));
                }
            }
            return all;
        }

        private String look() {
            return next < tokens.size() ? tokens.get(next).text : "";
        }

        private Fault fault() {
            return new Fault(next < tokens.size() ? tokens.get(next).place : text.length());
        }

        private Things items() {
            Things read = new Things();
            while (next < tokens.size()) {
                if (look().equals("p") && read.polynomials.size() < 3) {
                    next++;
                    read.polynomials.add(polynomial());
                    read.wishes.add(0);
                } else if (look().equals("b") && read.boxes.size() < 3) {
                    next++;
                    int lower = number(-5, 5);
                    int upper = number(lower + 1, 5);
                    read.boxes.add(new int[] {lower, upper});
                } else {
                    throw fault();
                }
                if (!look().equals(";")) {
                    throw fault();
                }
                next++;
            }
            return read;
        }

        private int[] polynomial() {
            List<Integer> all = new ArrayList<>();
            do {
                all.add(number(-50, 50));
            } while (!look().equals(";") && all.size() < 6);
            return all.stream().mapToInt(Integer::intValue).toArray();
        }

        private int number(int least, int most) {
            int sign = 1;
            if (look().equals("-")) {
                sign = -1;
                next++;
            }
            if (!look().matches("0|[1-9][0-9]?")) {
                throw fault();
            }
            int number = sign * Integer.parseInt(look());
            if (number < least || number > most) {
                throw fault();
            }
            next++;
            return number;
        }

        // -- what is told and done

        private boolean hasP(int p) {
            return p >= 0 && p < things.polynomials.size();
        }

        private boolean hasB(int b) {
            return b >= 0 && b < things.boxes.size();
        }

        private boolean hasK(int p, int k) {
            return hasP(p) && k >= 0 && k < things.polynomials.get(p).length;
        }

        private boolean lacks() {
            return !hasP(p) || !hasB(b);
        }

        private static boolean out(int number, int least, int most) {
            return number < least || number > most;
        }

        int takes(int p, int b) {
            if (!hasP(p) || !hasB(b)) {
                return BAD;
            }
            this.p = p;
            this.b = b;
            return 1;
        }

        long coef(int p, int k) {
            return hasK(p, k) ? things.polynomials.get(p)[k] : NO;
        }

        long box(int b, int what) {
            return hasB(b) && !out(what, 0, 1) ? things.boxes.get(b)[what] : NO;
        }

        private void remember() {
            before.add(things.copy());
            if (before.size() > 10) {
                before.remove(0);
            }
        }

        int coefs(int p, int k, int v) {
            if (!hasK(p, k) || out(v, -50, 50)) {
                return BAD;
            }
            if (things.polynomials.get(p)[k] == v) {
                return STATE;
            }
            remember();
            things.polynomials.get(p)[k] = v;
            return 1;
        }

        int ends(int b, int lower, int upper) {
            if (!hasB(b) || out(lower, -5, 5) || out(upper, -5, 5) || lower >= upper) {
                return BAD;
            }
            int[] ends = {lower, upper};
            if (Arrays.equals(things.boxes.get(b), ends)) {
                return STATE;
            }
            remember();
            things.boxes.set(b, ends);
            return 1;
        }

        int wishes(int p, int sign) {
            if (!hasP(p) || out(sign, -1, 1)) {
                return BAD;
            }
            if (things.wishes.get(p) == sign) {
                return STATE;
            }
            remember();
            things.wishes.set(p, sign);
            return 1;
        }

        int undo() {
            if (before.isEmpty()) {
                return STATE;
            }
            things = before.remove(before.size() - 1);
            return before.size();
        }

        // -- control

        private Fraction[] sides(int node) {
            if (node == 1) {
                int[] ends = things.boxes.get(b);
                return new Fraction[] {Fraction.of(ends[0], 1), Fraction.of(ends[1], 1)};
            }
            Fraction[] of = sides(node / 2);
            Fraction middle = of[0].plus(of[1]).times(Fraction.of(1, 2));
            return node % 2 == 0 ? new Fraction[] {of[0], middle} : new Fraction[] {middle, of[1]};
        }

        private Fraction at(int p, Fraction x) {
            Fraction sum = Fraction.ZERO;
            Fraction power = Fraction.of(1, 1);
            for (int a : things.polynomials.get(p)) {
                sum = sum.plus(power.times(Fraction.of(a, 1)));
                power = power.times(x);
            }
            return sum;
        }

        private static long over(int n, int k) {
            long ways = 1;
            for (int i = 1; i <= k; i++) {
                ways = ways * (n - k + i) / i;
            }
            return ways;
        }

        private static Fraction power(Fraction x, int k) {
            Fraction power = Fraction.of(1, 1);
            for (int i = 0; i < k; i++) {
                power = power.times(x);
            }
            return power;
        }

        /** Powers of t first: q k; then c i is the sum of (i over k) by (N over k) times q k. */
        private Fraction[] row(int p, int node, int r) {
            int[] a = things.polynomials.get(p);
            Fraction[] ends = sides(node);
            Fraction wide = ends[1].plus(ends[0].times(Fraction.of(-1, 1)));
            int top = a.length - 1 + r;
            Fraction[] row = new Fraction[top + 1];
            for (int i = 0; i <= top; i++) {
                row[i] = Fraction.ZERO;
                for (int k = 0; k < a.length && k <= i; k++) {
                    Fraction q = Fraction.ZERO;
                    for (int m = k; m < a.length; m++) {
                        q = q.plus(Fraction.of(a[m] * over(m, k), 1).times(power(ends[0], m - k)));
                    }
                    q = q.times(power(wide, k));
                    row[i] = row[i].plus(q.times(Fraction.of(over(i, k), over(top, k))));
                }
            }
            return row;
        }

        private static boolean all(Fraction[] row, int sign) {
            return Arrays.stream(row).allMatch(c -> c.sign() == sign);
        }

        private static int changes(Fraction[] row) {
            int[] signs = Arrays.stream(row).mapToInt(Fraction::sign).filter(s -> s != 0).toArray();
            int changes = 0;
            for (int k = 1; k < signs.length; k++) {
                changes += signs[k] != signs[k - 1] ? 1 : 0;
            }
            return changes;
        }

        long control(int node, int r, int i, int what) {
            if (out(node, 1, 127) || out(r, 0, 2) || out(what, 0, 1) || lacks()) {
                return NO;
            }
            Fraction[] row = row(p, node, r);
            return out(i, 0, row.length - 1) ? NO : row[i].part(what);
        }

        int variation(int node, int r) {
            if (out(node, 1, 127) || out(r, 0, 2)) {
                return BAD;
            }
            return lacks() ? STATE : changes(row(p, node, r));
        }

        long end(int node, int which, int what) {
            if (out(node, 1, 127) || out(which, 0, 1) || out(what, 0, 1) || lacks()) {
                return NO;
            }
            return sides(node)[which].part(what);
        }

        long value(int node, int which, int what) {
            if (out(node, 1, 127) || out(which, 0, 1) || out(what, 0, 1) || lacks()) {
                return NO;
            }
            return at(p, sides(node)[which]).part(what);
        }

        // -- roots

        private void bracketsOf(int node, List<int[]> found) {
            int changes = changes(row(p, node, 0));
            if (changes == 0) {
                return;
            }
            if (changes == 1) {
                found.add(new int[] {node, 0});
            } else if (node >= 64) {
                found.add(new int[] {node, 2});
            } else {
                bracketsOf(2 * node, found);
                if (at(p, sides(2 * node)[1]).sign() == 0) {
                    found.add(new int[] {node, 1});
                }
                bracketsOf(2 * node + 1, found);
            }
        }

        private List<int[]> found() {
            List<int[]> found = new ArrayList<>();
            bracketsOf(1, found);
            return found;
        }

        int brackets() {
            return lacks() ? STATE : found().size();
        }

        int bracket(int k, int what) {
            if (k < 0 || out(what, 0, 1)) {
                return BAD;
            }
            if (lacks()) {
                return STATE;
            }
            List<int[]> found = found();
            return k < found.size() ? found.get(k)[what] : NONE;
        }

        // -- papers

        private Fraction place;

        /** 0: the paper is made; else WITNESS, UNSURE. */
        private int write(int node, StringBuilder letters) {
            for (int r = 0; r <= 2; r++) {
                if (all(row(p, node, r), 1)) {
                    letters.append(r);
                    return 0;
                }
            }
            for (Fraction x : sides(node)) {
                if (at(p, x).sign() <= 0) {
                    place = x;
                    return WITNESS;
                }
            }
            if (node >= 64) {
                return UNSURE;
            }
            letters.append('s');
            int lower = write(2 * node, letters);
            return lower != 0 ? lower : write(2 * node + 1, letters);
        }

        String ownPaper() {
            StringBuilder letters = new StringBuilder();
            return lacks() || write(1, letters) != 0 ? "0" : letters.toString();
        }

        int makes() {
            if (lacks()) {
                return STATE;
            }
            StringBuilder letters = new StringBuilder();
            int outcome = write(1, letters);
            return outcome == 0 ? letters.length() : outcome;
        }

        int paper(int k) {
            if (k < 0) {
                return BAD;
            }
            if (lacks()) {
                return STATE;
            }
            StringBuilder letters = new StringBuilder();
            return write(1, letters) == 0 && k < letters.length() ? letters.charAt(k) : NONE;
        }

        long witness(int what) {
            if (out(what, 0, 1) || lacks() || write(1, new StringBuilder()) != WITNESS) {
                return NO;
            }
            return place.part(what);
        }

        private boolean right;

        private int readNode(int node, int at) {
            char letter = at < text.length() ? text.charAt(at) : ' ';
            if (letter == 's' && node < 64) {
                return readNode(2 * node + 1, readNode(2 * node, at + 1));
            }
            if (letter < '0' || letter > '2') {
                throw new Fault(at);
            }
            right &= all(row(p, node, letter - '0'), 1);
            return at + 1;
        }

        int proves() {
            if (lacks()) {
                return STATE;
            }
            right = true;
            try {
                int behind = readNode(1, 0);
                return behind < text.length() ? -10 - behind : right ? 1 : 0;
            } catch (Fault f) {
                return -10 - f.place;
            }
        }

        // -- bounds

        private Fraction least(int node) {
            return Arrays.stream(row(p, node, 0)).min(Fraction::compareTo).get();
        }

        long narrowed(int n, int which, int what) {
            if (out(n, 0, 20) || out(which, 0, 1) || out(what, 0, 1) || lacks()) {
                return NO;
            }
            List<Integer> nodes = new ArrayList<>(List.of(1));
            for (int k = 0; k < n; k++) {
                int lowest = nodes.get(0);
                for (int node : nodes) {
                    int order = least(node).compareTo(least(lowest));
                    if (order < 0 || order == 0 && sides(node)[0].compareTo(sides(lowest)[0]) < 0) {
                        lowest = node;
                    }
                }
                if (lowest >= 64) {
                    break;
                }
                nodes.remove(Integer.valueOf(lowest));
                nodes.add(2 * lowest);
                nodes.add(2 * lowest + 1);
            }
            Fraction bound = null;
            for (int node : nodes) {
                Fraction low = at(p, sides(node)[0]);
                Fraction high = at(p, sides(node)[1]);
                Fraction its = which == 0 ? least(node) : low.compareTo(high) < 0 ? low : high;
                bound = bound == null || its.compareTo(bound) < 0 ? its : bound;
            }
            return bound.part(what);
        }

        // -- wishes

        private boolean held(int node) {
            for (int q = 0; q < things.polynomials.size(); q++) {
                int sign = things.wishes.get(q);
                if (sign != 0 && !all(row(q, node, 0), sign)) {
                    return false;
                }
            }
            return true;
        }

        private boolean broken(int node) {
            for (int q = 0; q < things.polynomials.size(); q++) {
                int sign = things.wishes.get(q);
                if (sign != 0 && all(row(q, node, 0), -sign)) {
                    return true;
                }
            }
            return false;
        }

        private void measure(int node, int parts, int[] sums) {
            if (held(node)) {
                sums[0] += parts;
            } else if (broken(node)) {
                sums[1] += parts;
            } else if (node >= 64) {
                sums[2] += parts;
            } else {
                measure(2 * node, parts / 2, sums);
                measure(2 * node + 1, parts / 2, sums);
            }
        }

        int sure(int what) {
            if (out(what, 0, 2)) {
                return BAD;
            }
            if (!hasB(b)) {
                return STATE;
            }
            int[] sums = new int[3];
            measure(1, 64, sums);
            return sums[what];
        }

        int first() {
            if (!hasB(b)) {
                return STATE;
            }
            for (int node = 1; node < 128; node++) {
                if (held(node)) {
                    return node;
                }
            }
            return NONE;
        }

        long wish(int p) {
            return hasP(p) ? things.wishes.get(p) : NO;
        }

        // -- which polynomial, images

        int sees(int x, int sign) {
            if (out(x, -5, 5) || out(sign, -1, 1)) {
                return BAD;
            }
            if (seen.size() == 6) {
                return FULL;
            }
            seen.add(new int[] {x, sign});
            return seen.size();
        }

        int forget() {
            int was = seen.size();
            seen.clear();
            return was;
        }

        int unseen() {
            int bits = 0;
            for (int q = 0; q < things.polynomials.size(); q++) {
                int it = q;
                if (seen.stream().allMatch(s -> at(it, Fraction.of(s[0], 1)).sign() == s[1])) {
                    bits += 1 << q;
                }
            }
            return bits;
        }

        int keep(int image) {
            if (out(image, 0, 1)) {
                return BAD;
            }
            images[image] = things.copy();
            return things.polynomials.size();
        }

        int back(int image) {
            if (out(image, 0, 1)) {
                return BAD;
            }
            if (images[image] == null) {
                return STATE;
            }
            things = images[image].copy();
            before.clear();
            return things.polynomials.size();
        }

        int count(int what) {
            int[] all = {things.polynomials.size(), things.boxes.size(), p, b,
                hasP(p) ? things.polynomials.get(p).length - 1 : NONE, seen.size(), text.length(), before.size()};
            return out(what, 0, 7) ? BAD : all[what];
        }
    }
}
