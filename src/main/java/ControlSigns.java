import java.util.Arrays;

/**
 * Signs of polynomials over boxes of one letter by control numbers.
 * The words in capitals are those of the document, ../shared/DOC.md.
 */
public final class ControlSigns {
    public static final int BAD = -1, STATE = -2, FULL = -3, NONE = -9, WITNESS = -7, UNSURE = -8;
    public static final long NO = -4611686018427387904L;

    private static final int MOST_LETTERS = 120;
    private static final int MOST_POLYNOMIALS = 3;
    private static final int MOST_COEFFICIENTS = 6;
    private static final int MOST_BOXES = 3;
    private static final int MOST_SEEN = 6;
    private static final int MOST_UNDONE = 10;
    private static final int MOST_RAISED = 2;
    private static final int MOST_NARROWED = 20;
    private static final int COEFFICIENT_LIMIT = 50;
    private static final int PLACE_LIMIT = 5;
    private static final int LAST_NODE = 127;
    /** From this NODE on none is halved; as many parts has a BOX then. */
    private static final int PARTS = 64;
    private static final int NO_FAULT = -1;
    private static final int FAULT_BASE = -10;
    /** The most numbers that a row of CONTROL has: six, twice RAISED. */
    private static final int MOST_NUMBERS = MOST_COEFFICIENTS + MOST_RAISED;
    /** A number that each (n over i) divides, n being 5 at most: numbers of several rows meet on it. */
    private static final int COMMON_WAYS = 60;
    /** Euclid's way is shorter than this for any two longs. */
    private static final int MOST_DIVISIONS = 100;

    /** (N over i) stands at 8 N and i. */
    private static final int[] WAYS = {
        1, 0, 0, 0, 0, 0, 0, 0,
        1, 1, 0, 0, 0, 0, 0, 0,
        1, 2, 1, 0, 0, 0, 0, 0,
        1, 3, 3, 1, 0, 0, 0, 0,
        1, 4, 6, 4, 1, 0, 0, 0,
        1, 5, 10, 10, 5, 1, 0, 0,
        1, 6, 15, 20, 15, 6, 1, 0,
        1, 7, 21, 35, 35, 21, 7, 1
    };

    private final Text text = new Text();
    private final Told now = new Told();
    private final Taken taken = new Taken(now);
    private final Changes changes = new Changes();
    private final Told[] images = {new Told(), new Told()};
    /** Bits: which IMAGES are kept. */
    private int keptImages;
    private final Sights sights = new Sights();
    private final TextReader reader = new TextReader();
    private final Row row = new Row();
    private final Roots roots = new Roots();
    private final Paper proof = new Paper();
    private final Bounds bounds = new Bounds();
    private final Shares shares = new Shares();

    public ControlSigns() {
    }

    // ---- what is told

    public int type(int letter) {
        if (!isWithin(letter, 0, 255)) {
            return BAD;
        }
        if (text.isFull()) {
            return FULL;
        }
        text.add(letter);
        return text.length();
    }

    public int clear() {
        int had = text.length();
        text.empty();
        return had;
    }

    public int house() {
        int fault = reader.read(text);
        if (fault != NO_FAULT) {
            return FAULT_BASE - fault;
        }
        now.become(reader.draft());
        text.empty();
        taken.take(0, 0);
        changes.empty();
        keptImages = 0;
        sights.empty();
        return now.polynomials() + now.boxes();
    }

    public int takes(int p, int box) {
        if (!now.hasPolynomial(p) || !now.hasBox(box)) {
            return BAD;
        }
        taken.take(p, box);
        return 1;
    }

    public long coef(int p, int k) {
        return now.hasCoefficient(p, k) ? now.coefficient(p, k) : NO;
    }

    public long box(int box, int what) {
        if (!now.hasBox(box) || !isWithin(what, 0, 1)) {
            return NO;
        }
        return what == 0 ? now.lower(box) : now.upper(box);
    }

    // ---- what is done

    public int coefs(int p, int k, int v) {
        if (!now.hasCoefficient(p, k) || !isCoefficient(v)) {
            return BAD;
        }
        if (now.coefficient(p, k) == v) {
            return STATE;
        }
        changes.rememberCoefficient(now, p, k);
        now.putCoefficient(p, k, v);
        return 1;
    }

    public int ends(int box, int a, int b) {
        if (!now.hasBox(box) || !isPlace(a) || !isPlace(b) || a >= b) {
            return BAD;
        }
        if (now.lower(box) == a && now.upper(box) == b) {
            return STATE;
        }
        changes.rememberBox(now, box);
        now.putBox(box, a, b);
        return 1;
    }

    public int wishes(int p, int sign) {
        if (!now.hasPolynomial(p) || !isWithin(sign, -1, 1)) {
            return BAD;
        }
        if (now.wanted(p) == sign) {
            return STATE;
        }
        changes.rememberWish(now, p);
        now.want(p, sign);
        return 1;
    }

    public int undo() {
        if (changes.size() == 0) {
            return STATE;
        }
        changes.takeBack(now);
        return changes.size();
    }

    // ---- control

    public long control(int node, int r, int i, int what) {
        if (!isNode(node) || !isWithin(r, 0, MOST_RAISED) || !isWithin(what, 0, 1) || !taken.isThere()) {
            return NO;
        }
        if (!isWithin(i, 0, now.degree(taken.takenPolynomial()) + r)) {
            return NO;
        }
        row.layRaised(taken, node, r);
        return part(row.number(i), row.below(i), what);
    }

    public int variation(int node, int r) {
        if (!isNode(node) || !isWithin(r, 0, MOST_RAISED)) {
            return BAD;
        }
        if (!taken.isThere()) {
            return STATE;
        }
        row.layRaised(taken, node, r);
        return row.signChanges();
    }

    public long end(int node, int which, int what) {
        if (!isNode(node) || !isWithin(which, 0, 1) || !isWithin(what, 0, 1) || !taken.isThere()) {
            return NO;
        }
        int place = which == 0 ? taken.low(node) : taken.high(node);
        return part(place, PARTS, what);
    }

    public long value(int node, int which, int what) {
        if (!isNode(node) || !isWithin(which, 0, 1) || !isWithin(what, 0, 1) || !taken.isThere()) {
            return NO;
        }
        row.lay(taken, node);
        int i = which == 0 ? 0 : row.top();
        return part(row.number(i), row.below(i), what);
    }

    // ---- roots

    public int brackets() {
        if (!taken.isThere()) {
            return STATE;
        }
        roots.find(taken, row);
        return roots.size();
    }

    public int bracket(int k, int what) {
        if (k < 0 || !isWithin(what, 0, 1)) {
            return BAD;
        }
        if (!taken.isThere()) {
            return STATE;
        }
        roots.find(taken, row);
        if (k >= roots.size()) {
            return NONE;
        }
        return what == 0 ? roots.node(k) : roots.kind(k);
    }

    // ---- papers

    public int makes() {
        return taken.isThere() ? proof.write(taken, row) : STATE;
    }

    public int paper(int k) {
        if (k < 0) {
            return BAD;
        }
        if (!taken.isThere()) {
            return STATE;
        }
        int size = proof.write(taken, row);
        return k < size ? proof.letter(k) : NONE;
    }

    public long witness(int what) {
        if (!isWithin(what, 0, 1) || !taken.isThere()) {
            return NO;
        }
        if (proof.write(taken, row) != WITNESS) {
            return NO;
        }
        return part(proof.place(), PARTS, what);
    }

    public int proves() {
        return taken.isThere() ? proof.read(taken, row, text) : STATE;
    }

    // ---- bounds

    public long narrowed(int n, int which, int what) {
        if (!isWithin(n, 0, MOST_NARROWED) || !isWithin(which, 0, 1) || !isWithin(what, 0, 1)) {
            return NO;
        }
        if (!taken.isThere()) {
            return NO;
        }
        bounds.narrow(taken, row, n);
        long bound = which == 0 ? bounds.leastNumber() : bounds.leastEnd();
        return part(bound, row.commonBelow(), what);
    }

    // ---- wishes

    public int sure(int what) {
        if (!isWithin(what, 0, 2)) {
            return BAD;
        }
        if (!taken.hasBox()) {
            return STATE;
        }
        shares.measure(taken, row);
        return shares.share(what);
    }

    public int first() {
        return taken.hasBox() ? shares.firstHeld(taken, row) : STATE;
    }

    public long wish(int p) {
        return now.hasPolynomial(p) ? now.wanted(p) : NO;
    }

    // ---- which polynomial

    public int sees(int x, int sign) {
        if (!isPlace(x) || !isWithin(sign, -1, 1)) {
            return BAD;
        }
        if (sights.isFull()) {
            return FULL;
        }
        sights.add(x, sign);
        return sights.size();
    }

    public int forget() {
        int was = sights.size();
        sights.empty();
        return was;
    }

    public int unseen() {
        int bits = 0;
        for (int p = 0; p < now.polynomials(); p++) {
            if (sights.fit(now, p)) {
                bits |= 1 << p;
            }
        }
        return bits;
    }

    // ---- images

    public int keep(int image) {
        if (!isImage(image)) {
            return BAD;
        }
        images[image].become(now);
        keptImages |= 1 << image;
        return now.polynomials();
    }

    public int back(int image) {
        if (!isImage(image)) {
            return BAD;
        }
        if ((keptImages >> image & 1) == 0) {
            return STATE;
        }
        now.become(images[image]);
        changes.empty();
        return now.polynomials();
    }

    public int count(int what) {
        switch (what) {
            case 0: return now.polynomials();
            case 1: return now.boxes();
            case 2: return taken.takenPolynomial();
            case 3: return taken.takenBox();
            case 4: return now.hasPolynomial(taken.takenPolynomial()) ? now.degree(taken.takenPolynomial()) : NONE;
            case 5: return sights.size();
            case 6: return text.length();
            case 7: return changes.size();
            default: return BAD;
        }
    }

    private boolean isImage(int image) {
        return image >= 0 && image < images.length;
    }

    // ---- what several classes use

    private static boolean isWithin(int number, int least, int most) {
        return number >= least && number <= most;
    }

    private static boolean isNode(int node) {
        return isWithin(node, 1, LAST_NODE);
    }

    private static boolean isPlace(int x) {
        return isWithin(x, -PLACE_LIMIT, PLACE_LIMIT);
    }

    private static boolean isCoefficient(int v) {
        return isWithin(v, -COEFFICIENT_LIMIT, COEFFICIENT_LIMIT);
    }

    private static int signOf(long number) {
        if (number == 0) {
            return 0;
        }
        return number > 0 ? 1 : -1;
    }

    /** The upper (what = 0) or the lower number of a fraction in least terms; lower is above 0. */
    private static long part(long upper, long lower, int what) {
        long divisor = commonDivisor(Math.abs(upper), lower);
        if (divisor < 1) {
            return NO;
        }
        return (what == 0 ? upper : lower) / divisor;
    }

    private static long commonDivisor(long one, long other) {
        long greater = one;
        long rest = other;
        for (int step = 0; step < MOST_DIVISIONS && rest != 0; step++) {
            long next = greater % rest;
            greater = rest;
            rest = next;
        }
        return greater;
    }

    /** How many 64ths of its BOX a NODE has. */
    private static int partsOf(int node) {
        int parts = PARTS;
        for (int m = node; m > 1; m /= 2) {
            parts /= 2;
        }
        return parts;
    }

    /** The NODE that a walk from left to right goes to behind all of this one; 0: there is none. */
    private static int behind(int node) {
        int m = node;
        while (m > 0 && m % 2 == 1) {
            m /= 2;
        }
        return m > 0 ? m + 1 : 0;
    }

    /** THE TEXT. */
    private static final class Text {
        private final int[] letters = new int[MOST_LETTERS];
        private int size;

        int length() {
            return size;
        }

        boolean isFull() {
            return size >= letters.length;
        }

        void add(int letter) {
            if (size >= 0 && size < letters.length) {
                letters[size] = letter;
                size++;
            }
        }

        /** The letter at a place; NONE behind the end. */
        int at(int place) {
            return place >= 0 && place < size && place < letters.length ? letters[place] : NONE;
        }

        void empty() {
            size = 0;
        }
    }

    /** POLYNOMIALS with their WISHES, and BOXES. */
    private static final class Told {
        private int polynomials;
        private int boxes;
        private final int[] sizes = new int[MOST_POLYNOMIALS];
        private final int[] coefficients = new int[MOST_POLYNOMIALS * MOST_COEFFICIENTS];
        private final int[] wanted = new int[MOST_POLYNOMIALS];
        private final int[] lowers = new int[MOST_BOXES];
        private final int[] uppers = new int[MOST_BOXES];

        int polynomials() {
            return polynomials;
        }

        int boxes() {
            return boxes;
        }

        boolean hasPolynomial(int p) {
            return p >= 0 && p < polynomials && p < MOST_POLYNOMIALS;
        }

        boolean hasBox(int b) {
            return b >= 0 && b < boxes && b < MOST_BOXES;
        }

        boolean hasCoefficient(int p, int k) {
            return p >= 0 && p < polynomials && p < MOST_POLYNOMIALS
                && k >= 0 && k < sizes[p] && k < MOST_COEFFICIENTS;
        }

        /** n of a POLYNOMIAL. */
        int degree(int p) {
            return hasPolynomial(p) ? sizes[p] - 1 : NONE;
        }

        int coefficient(int p, int k) {
            return hasCoefficient(p, k) ? coefficients[p * MOST_COEFFICIENTS + k] : 0;
        }

        int wanted(int p) {
            return hasPolynomial(p) ? wanted[p] : 0;
        }

        int lower(int b) {
            return hasBox(b) ? lowers[b] : 0;
        }

        int upper(int b) {
            return hasBox(b) ? uppers[b] : 0;
        }

        /** The place behind so many 64ths of a BOX, itself in 64ths of 1. */
        int placeBehind(int b, int parts) {
            if (b < 0 || b >= MOST_BOXES) {
                return 0;
            }
            return lowers[b] * PARTS + (uppers[b] - lowers[b]) * parts;
        }

        /** What a POLYNOMIAL is at a whole place. */
        int at(int p, int x) {
            int sum = 0;
            for (int k = degree(p); k >= 0; k--) {
                sum = sum * x + coefficient(p, k);
            }
            return sum;
        }

        void putCoefficient(int p, int k, int v) {
            if (hasCoefficient(p, k)) {
                coefficients[p * MOST_COEFFICIENTS + k] = v;
            }
        }

        void putBox(int b, int lower, int upper) {
            if (hasBox(b)) {
                lowers[b] = lower;
                uppers[b] = upper;
            }
        }

        void want(int p, int sign) {
            if (hasPolynomial(p)) {
                wanted[p] = sign;
            }
        }

        void empty() {
            polynomials = 0;
            boxes = 0;
        }

        /** One more POLYNOMIAL, yet without COEFFICIENTS, without a WISH. */
        void addPolynomial() {
            if (polynomials >= 0 && polynomials < MOST_POLYNOMIALS) {
                sizes[polynomials] = 0;
                wanted[polynomials] = 0;
                polynomials++;
            }
        }

        /** One more COEFFICIENT of the last POLYNOMIAL. */
        void addCoefficient(int v) {
            int p = polynomials - 1;
            if (hasPolynomial(p) && sizes[p] >= 0 && sizes[p] < MOST_COEFFICIENTS) {
                coefficients[p * MOST_COEFFICIENTS + sizes[p]] = v;
                sizes[p]++;
            }
        }

        void addBox(int lower, int upper) {
            if (boxes >= 0 && boxes < MOST_BOXES) {
                lowers[boxes] = lower;
                uppers[boxes] = upper;
                boxes++;
            }
        }

        void become(Told other) {
            polynomials = other.polynomials;
            boxes = other.boxes;
            System.arraycopy(other.sizes, 0, sizes, 0, sizes.length);
            System.arraycopy(other.coefficients, 0, coefficients, 0, coefficients.length);
            System.arraycopy(other.wanted, 0, wanted, 0, wanted.length);
            System.arraycopy(other.lowers, 0, lowers, 0, lowers.length);
            System.arraycopy(other.uppers, 0, uppers, 0, uppers.length);
        }
    }

    /** Reads THE TEXT into a draft, so that a FAULT leaves all that was told before as it is. */
    private static final class TextReader {
        private static final int NO_ITEM = 0, POLYNOMIAL = 1, BOX = 2;

        private final Told draft = new Told();
        private int item;
        /** How many numbers the open ITEM has. */
        private int numbers;
        private boolean isBelowNought;
        private int lower;

        Told draft() {
            return draft;
        }

        /** FAULT, or NO_FAULT. */
        int read(Text text) {
            draft.empty();
            item = NO_ITEM;
            for (int place = 0; place < text.length(); place++) {
                if (!stands(text, place)) {
                    return place;
                }
            }
            return item == NO_ITEM ? NO_FAULT : text.length();
        }

        /** Whether the TOKEN whose first letter is at a place can stand there; true, if no TOKEN begins there. */
        private boolean stands(Text text, int place) {
            int letter = text.at(place);
            if (isDigit(letter)) {
                return isDigit(text.at(place - 1)) || takesNumber(text, place);
            }
            return letter == ' ' || takesSign(letter);
        }

        private static boolean isDigit(int letter) {
            return letter >= '0' && letter <= '9';
        }

        private boolean takesSign(int letter) {
            switch (letter) {
                case 'p': return opensPolynomial();
                case 'b': return opensBox();
                case '-': return takesMinus();
                case ';': return closes();
                default: return false;
            }
        }

        private boolean opensPolynomial() {
            if (item != NO_ITEM || draft.polynomials() >= MOST_POLYNOMIALS) {
                return false;
            }
            draft.addPolynomial();
            open(POLYNOMIAL);
            return true;
        }

        private boolean opensBox() {
            if (item != NO_ITEM || draft.boxes() >= MOST_BOXES) {
                return false;
            }
            open(BOX);
            return true;
        }

        private void open(int kind) {
            item = kind;
            numbers = 0;
            isBelowNought = false;
        }

        private boolean takesMinus() {
            if (isBelowNought || !hasRoom()) {
                return false;
            }
            isBelowNought = true;
            return true;
        }

        /** Whether a number may still come to the open ITEM. */
        private boolean hasRoom() {
            return item == POLYNOMIAL && numbers < MOST_COEFFICIENTS || item == BOX && numbers < 2;
        }

        private boolean closes() {
            if (isBelowNought || item == NO_ITEM || item == POLYNOMIAL && numbers == 0 || item == BOX && numbers < 2) {
                return false;
            }
            item = NO_ITEM;
            return true;
        }

        private boolean takesNumber(Text text, int place) {
            int number = text.at(place) - '0';
            int second = text.at(place + 1);
            if (isDigit(second)) {
                if (number == 0 || isDigit(text.at(place + 2))) {
                    return false;
                }
                number = number * 10 + second - '0';
            }
            if (!hasRoom()) {
                return false;
            }
            int signed = isBelowNought ? -number : number;
            isBelowNought = false;
            numbers++;
            return item == POLYNOMIAL ? takesCoefficient(signed) : takesEnd(signed);
        }

        private boolean takesCoefficient(int v) {
            if (!isCoefficient(v)) {
                return false;
            }
            draft.addCoefficient(v);
            return true;
        }

        private boolean takesEnd(int x) {
            if (!isPlace(x)) {
                return false;
            }
            if (numbers == 1) {
                lower = x;
                return true;
            }
            if (x <= lower) {
                return false;
            }
            draft.addBox(lower, x);
            return true;
        }
    }

    /** What is TAKEN of what is told now. */
    private static final class Taken {
        private final Told told;
        private int polynomial;
        private int box;

        Taken(Told told) {
            this.told = told;
        }

        Told told() {
            return told;
        }

        int takenPolynomial() {
            return polynomial;
        }

        int takenBox() {
            return box;
        }

        void take(int p, int b) {
            polynomial = p;
            box = b;
        }

        boolean hasBox() {
            return told.hasBox(box);
        }

        boolean isThere() {
            return told.hasPolynomial(polynomial) && hasBox();
        }

        /** LO of a NODE in 64ths. */
        int low(int node) {
            return told.placeBehind(box, node * partsOf(node) - PARTS);
        }

        /** HI of a NODE in 64ths. */
        int high(int node) {
            return told.placeBehind(box, (node + 1) * partsOf(node) - PARTS);
        }
    }

    /** What was DONE and can be UNDONE: of each what it was before. */
    private static final class Changes {
        private static final int COEFFICIENT = 0, BOX = 1, WISH = 2;
        private static final int WIDTH = 5;

        /** Of each: kind, POLYNOMIAL or BOX, the COEFFICIENT's k, one old number, another one. */
        private final int[] rows = new int[MOST_UNDONE * WIDTH];
        private int size;

        int size() {
            return size;
        }

        void empty() {
            size = 0;
        }

        void rememberCoefficient(Told told, int p, int k) {
            remember(COEFFICIENT, p, k, told.coefficient(p, k), 0);
        }

        void rememberBox(Told told, int b) {
            remember(BOX, b, 0, told.lower(b), told.upper(b));
        }

        void rememberWish(Told told, int p) {
            remember(WISH, p, 0, told.wanted(p), 0);
        }

        private void remember(int kind, int which, int k, int old, int oldToo) {
            if (size >= MOST_UNDONE) {
                size = MOST_UNDONE - 1;
                System.arraycopy(rows, WIDTH, rows, 0, size * WIDTH);
            }
            int at = size * WIDTH;
            if (at < 0 || at + WIDTH > rows.length) {
                return;
            }
            rows[at] = kind;
            rows[at + 1] = which;
            rows[at + 2] = k;
            rows[at + 3] = old;
            rows[at + 4] = oldToo;
            size++;
        }

        /** The latest is UNDONE. */
        void takeBack(Told told) {
            int at = (size - 1) * WIDTH;
            if (at < 0 || at + WIDTH > rows.length) {
                return;
            }
            size--;
            int which = rows[at + 1];
            if (rows[at] == COEFFICIENT) {
                told.putCoefficient(which, rows[at + 2], rows[at + 3]);
            } else if (rows[at] == BOX) {
                told.putBox(which, rows[at + 3], rows[at + 4]);
            } else {
                told.want(which, rows[at + 3]);
            }
        }
    }

    /**
     * A row of CONTROL over a NODE. Each number c i is held as c i times (N over i) times 64 to the
     * power of n: so all are whole, have the signs of CONTROL, and to raise is to add neighbours.
     */
    private static final class Row {
        private final long[] numbers = new long[MOST_NUMBERS];
        /** N: n and how often it was RAISED. */
        private int top;
        /** 64 to the power of n. */
        private long unit;

        int top() {
            return top;
        }

        void lay(Taken taken, int node) {
            layOne(taken, taken.takenPolynomial(), node);
        }

        void layRaised(Taken taken, int node, int r) {
            layOne(taken, taken.takenPolynomial(), node);
            for (int times = 0; times < r; times++) {
                raise();
            }
        }

        /** Horner's way, each step of it a row: times the place, and the next COEFFICIENT. */
        void layOne(Taken taken, int p, int node) {
            Told told = taken.told();
            long low = taken.low(node);
            long high = taken.high(node);
            int degree = Math.min(told.degree(p), MOST_COEFFICIENTS - 1);
            Arrays.fill(numbers, 0L);
            unit = 1;
            top = 0;
            numbers[0] = told.coefficient(p, degree);
            for (int k = degree - 1; k >= 0; k--) {
                unit *= PARTS;
                multiply(low, high);
                addWhole(told.coefficient(p, k) * unit);
            }
        }

        void raise() {
            multiply(1, 1);
        }

        /** Times a line that is left at LO and right at HI. */
        private void multiply(long left, long right) {
            if (top < 0 || top + 1 >= numbers.length) {
                return;
            }
            top++;
            for (int i = top; i > 0; i--) {
                numbers[i] = numbers[i] * left + numbers[i - 1] * right;
            }
            numbers[0] *= left;
        }

        private void addWhole(long whole) {
            for (int i = 0; i <= top && i < numbers.length; i++) {
                numbers[i] += whole * ways(i);
            }
        }

        /** (N over i). */
        private int ways(int i) {
            int at = top * MOST_NUMBERS + i;
            return i >= 0 && i <= top && at >= 0 && at < WAYS.length ? WAYS[at] : 0;
        }

        /** The i-th CONTROL is number(i) by below(i). */
        long number(int i) {
            return i >= 0 && i < numbers.length ? numbers[i] : 0;
        }

        long below(int i) {
            return ways(i) * unit;
        }

        /** The i-th CONTROL (not RAISED) is commonNumber(i) by commonBelow(), whatever the NODE is. */
        private long commonNumber(int i) {
            int ways = ways(i);
            return ways > 0 ? number(i) * (COMMON_WAYS / ways) : 0;
        }

        long commonBelow() {
            return COMMON_WAYS * unit;
        }

        /** The least CONTROL, by commonBelow(). */
        long least() {
            long least = commonNumber(0);
            for (int i = 1; i <= top; i++) {
                least = Math.min(least, commonNumber(i));
            }
            return least;
        }

        /** The lesser one of what it is at LO and at HI, by commonBelow(). */
        long leastEnd() {
            return Math.min(commonNumber(0), commonNumber(top));
        }

        int signAtLow() {
            return signOf(number(0));
        }

        int signAtHigh() {
            return signOf(number(top));
        }

        boolean allHave(int sign) {
            for (int i = 0; i <= top; i++) {
                if (signOf(number(i)) != sign) {
                    return false;
                }
            }
            return true;
        }

        /** VARIATION. */
        int signChanges() {
            int changes = 0;
            int before = 0;
            for (int i = 0; i <= top; i++) {
                int sign = signOf(number(i));
                if (sign != 0) {
                    if (before != 0 && sign != before) {
                        changes++;
                    }
                    before = sign;
                }
            }
            return changes;
        }
    }

    /** BRACKETS. */
    private static final class Roots {
        private static final int ALONE = 0, MIDDLE = 1, CROWD = 2;

        private final int[] nodes = new int[LAST_NODE];
        private final int[] kinds = new int[LAST_NODE];
        private int size;

        int size() {
            return size;
        }

        int node(int k) {
            return k >= 0 && k < size && k < nodes.length ? nodes[k] : NONE;
        }

        int kind(int k) {
            return k >= 0 && k < size && k < kinds.length ? kinds[k] : NONE;
        }

        void find(Taken taken, Row row) {
            size = 0;
            int node = 1;
            for (int visits = 0; visits < LAST_NODE && node != 0; visits++) {
                row.lay(taken, node);
                int changes = row.signChanges();
                if (changes > 1 && node < PARTS) {
                    node = 2 * node;
                } else {
                    if (changes > 0) {
                        add(node, changes == 1 ? ALONE : CROWD);
                    }
                    node = pass(node, row);
                }
            }
        }

        /** Goes behind a NODE: what parts it from the next one is the middle of the NODE that both lie in. */
        private int pass(int node, Row row) {
            int next = behind(node);
            if (next != 0 && row.signAtHigh() == 0) {
                add(next / 2, MIDDLE);
            }
            return next;
        }

        private void add(int node, int kind) {
            if (size >= 0 && size < nodes.length && size < kinds.length) {
                nodes[size] = node;
                kinds[size] = kind;
                size++;
            }
        }
    }

    /** THE PAPER, and the reader of one that is told. */
    private static final class Paper {
        private final int[] letters = new int[LAST_NODE];
        private int size;
        private int place;

        int letter(int k) {
            return k >= 0 && k < size && k < letters.length ? letters[k] : NONE;
        }

        /** Where the WITNESS is, in 64ths. */
        int place() {
            return place;
        }

        /** How many letters; WITNESS; UNSURE. */
        int write(Taken taken, Row row) {
            size = 0;
            int node = 1;
            for (int visits = 0; visits < LAST_NODE && node != 0; visits++) {
                int figure = leastFigure(taken, row, node);
                if (figure != NONE) {
                    add('0' + figure);
                    node = behind(node);
                } else if (row.signAtLow() <= 0) {
                    place = taken.low(node);
                    return WITNESS;
                } else if (row.signAtHigh() <= 0) {
                    place = taken.high(node);
                    return WITNESS;
                } else if (node >= PARTS) {
                    return UNSURE;
                } else {
                    add('s');
                    node = 2 * node;
                }
            }
            return size;
        }

        private void add(int letter) {
            if (size >= 0 && size < letters.length) {
                letters[size] = letter;
                size++;
            }
        }

        /** The least that is right at a NODE; NONE. (A row that is RAISED has the same ends.) */
        private static int leastFigure(Taken taken, Row row, int node) {
            row.lay(taken, node);
            for (int r = 0; r <= MOST_RAISED; r++) {
                if (row.allHave(1)) {
                    return r;
                }
                if (r < MOST_RAISED) {
                    row.raise();
                }
            }
            return NONE;
        }

        /** Whether a PAPER that is told PROVES; -10 less FAULT. */
        int read(Taken taken, Row row, Text text) {
            boolean proves = true;
            int node = 1;
            for (int at = 0; at < text.length(); at++) {
                int letter = text.at(at);
                int figure = letter - '0';
                if (node != 0 && isWithin(figure, 0, MOST_RAISED)) {
                    proves = proves && isRight(taken, row, node, figure);
                    node = behind(node);
                } else if (node != 0 && node < PARTS && letter == 's') {
                    node = 2 * node;
                } else {
                    return FAULT_BASE - at;
                }
            }
            if (node != 0) {
                return FAULT_BASE - text.length();
            }
            return proves ? 1 : 0;
        }

        private static boolean isRight(Taken taken, Row row, int node, int figure) {
            row.layRaised(taken, node, figure);
            return row.allHave(1);
        }
    }

    /** Bounds NARROWED: the NODES that there are, from left to right. */
    private static final class Bounds {
        private static final int MOST_NODES = MOST_NARROWED + 1;

        private final int[] nodes = new int[MOST_NODES];
        private final long[] leasts = new long[MOST_NODES];
        private final long[] leastEnds = new long[MOST_NODES];
        private int size;

        void narrow(Taken taken, Row row, int times) {
            size = 1;
            put(taken, row, 0, 1);
            for (int n = 0; n < times; n++) {
                int at = lowest();
                if (at < 0 || at >= nodes.length || nodes[at] >= PARTS) {
                    return;
                }
                int node = nodes[at];
                makeRoom(at);
                put(taken, row, at, 2 * node);
                put(taken, row, at + 1, 2 * node + 1);
            }
        }

        /** Where the first NODE with the least CONTROL stands. */
        private int lowest() {
            int found = 0;
            for (int at = 1; at < size && at < leasts.length; at++) {
                if (leasts[at] < leasts[found]) {
                    found = at;
                }
            }
            return found;
        }

        /** Moves all that lie above a NODE up by one. */
        private void makeRoom(int at) {
            if (at < 0 || at >= size || size >= MOST_NODES) {
                return;
            }
            int above = size - at - 1;
            System.arraycopy(nodes, at + 1, nodes, at + 2, above);
            System.arraycopy(leasts, at + 1, leasts, at + 2, above);
            System.arraycopy(leastEnds, at + 1, leastEnds, at + 2, above);
            size++;
        }

        private void put(Taken taken, Row row, int at, int node) {
            if (at < 0 || at >= MOST_NODES) {
                return;
            }
            row.lay(taken, node);
            nodes[at] = node;
            leasts[at] = row.least();
            leastEnds[at] = row.leastEnd();
        }

        /** LOWER, by the row's commonBelow(). */
        long leastNumber() {
            return leastOf(leasts);
        }

        /** UPPER, by the row's commonBelow(). */
        long leastEnd() {
            return leastOf(leastEnds);
        }

        private long leastOf(long[] numbers) {
            long least = numbers.length > 0 ? numbers[0] : 0;
            for (int at = 1; at < size && at < numbers.length; at++) {
                least = Math.min(least, numbers[at]);
            }
            return least;
        }
    }

    /** How much of a BOX is HELD, BROKEN, DOUBTFUL. */
    private static final class Shares {
        private static final int HELD = 0, BROKEN = 1, DOUBTFUL = 2;

        private final int[] parts = new int[DOUBTFUL + 1];

        int share(int what) {
            return what >= 0 && what < parts.length ? parts[what] : 0;
        }

        void measure(Taken taken, Row row) {
            Arrays.fill(parts, 0);
            int node = 1;
            for (int visits = 0; visits < LAST_NODE && node != 0; visits++) {
                int verdict = judge(taken, row, node);
                if (verdict == DOUBTFUL && node < PARTS) {
                    node = 2 * node;
                } else {
                    add(verdict, partsOf(node));
                    node = behind(node);
                }
            }
        }

        private void add(int verdict, int more) {
            if (verdict >= 0 && verdict < parts.length) {
                parts[verdict] += more;
            }
        }

        /** FIRST; NONE. */
        int firstHeld(Taken taken, Row row) {
            for (int node = 1; node <= LAST_NODE; node++) {
                if (judge(taken, row, node) == HELD) {
                    return node;
                }
            }
            return NONE;
        }

        private static int judge(Taken taken, Row row, int node) {
            Told told = taken.told();
            int verdict = HELD;
            for (int p = 0; p < told.polynomials(); p++) {
                int sign = told.wanted(p);
                if (sign != 0) {
                    row.layOne(taken, p, node);
                    if (row.allHave(-sign)) {
                        return BROKEN;
                    }
                    if (!row.allHave(sign)) {
                        verdict = DOUBTFUL;
                    }
                }
            }
            return verdict;
        }
    }

    /** What was SEEN. */
    private static final class Sights {
        private final int[] places = new int[MOST_SEEN];
        private final int[] signs = new int[MOST_SEEN];
        private int size;

        int size() {
            return size;
        }

        boolean isFull() {
            return size >= MOST_SEEN;
        }

        void add(int x, int sign) {
            if (size >= 0 && size < MOST_SEEN) {
                places[size] = x;
                signs[size] = sign;
                size++;
            }
        }

        void empty() {
            size = 0;
        }

        /** Whether by a POLYNOMIAL all that was SEEN is so. */
        boolean fit(Told told, int p) {
            for (int k = 0; k < size && k < MOST_SEEN; k++) {
                if (signOf(told.at(p, places[k])) != signs[k]) {
                    return false;
                }
            }
            return true;
        }
    }
}
