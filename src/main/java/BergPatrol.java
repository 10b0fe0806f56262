import java.util.ArrayList;
import java.util.Arrays;
import java.util.NoSuchElementException;

/** A patrol for icebergs: where they may be, warnings of them, ways around them, flights over them. */
public final class BergPatrol {
    public static final int NONE = -1;

    private static final int WIDE = 20;
    private static final int TALL = 14;
    private static final int SQUARES = WIDE * TALL;
    private static final int MOST_BERGS = 10;
    private static final int MOST_WARNINGS = 40;
    private static final int LEAST_CORNERS = 3;
    private static final int MOST_CORNERS = 40;
    private static final int MOST_SIZE = 1000;
    private static final int MOST_WARMTH = 50;
    private static final int MOST_CURRENT = 2;
    private static final int MOST_STEPS = 50;
    private static final int HUNDRED = 100;
    private static final int ALL_PARTS = 1000000;
    private static final int MOST_BYTES = 400;
    private static final int BYTES_OF_A_FEED = 20;
    private static final int BLANK = 32;

    /** The four neighbours beside a square come first, the four slantwise ones behind them. */
    private static final int SIDES = 4;
    private static final int NEIGHBOURS = 8;
    private static final int[] ROUND_X = {1, 0, -1, 0, 1, -1, -1, 1};
    private static final int[] ROUND_Y = {0, 1, 0, -1, 1, 1, -1, -1};
    private static final int STRAIGHT = 5;
    private static final int SLANTWISE = 7;

    private final Sea sea;
    private final ArrayList<Berg> bergs;
    private final ArrayList<Warning> warnings;
    private final Tape tape;
    private final Text text;
    private final Hull hull;
    private final Chart chart;
    private final Heights heights;
    /** The parts of all bergs together; only right after gatherParts(). */
    private final int[] gathered;
    /** Made once and used by every step of every berg, so that steps make nothing. */
    private final int[] drifted;
    private int now;
    private int joined;
    private int firstWrong;

    public BergPatrol() {
        sea = new Sea();
        bergs = new ArrayList<Berg>();
        warnings = new ArrayList<Warning>();
        text = new Text();
        tape = text.tape;
        hull = new Hull();
        chart = new Chart();
        heights = new Heights();
        gathered = new int[SQUARES];
        drifted = new int[SQUARES];
        now = 0;
        joined = 0;
        firstWrong = NONE;
    }

    public int feed(int a, int b, int c, int d, int e) {
        if (tape.length + BYTES_OF_A_FEED > MOST_BYTES) {
            return NONE;
        }
        tape.putFour(a);
        tape.putFour(b);
        tape.putFour(c);
        tape.putFour(d);
        tape.putFour(e);
        return tape.length;
    }

    public boolean end(int n) {
        if (n < 0 || n > tape.length) {
            return false;
        }
        tape.length = n;
        return true;
    }

    public void water(int square, int across, int up, int warmth)
            throws IndexOutOfBoundsException, IllegalArgumentException {
        checkSquare(square);
        if (!isCurrent(across) || !isCurrent(up) || warmth < 0 || warmth > MOST_WARMTH) {
            throw new IllegalArgumentException("no such current or warmth");
        }
        sea.across[square] = across;
        sea.up[square] = up;
        sea.warmth[square] = warmth;
    }

    public void land(int square, boolean is) throws IndexOutOfBoundsException, IllegalStateException {
        checkSquare(square);
        if (is && someBergMayBe(square)) {
            throw new IllegalStateException("a berg may be there");
        }
        sea.dry[square] = is;
    }

    public int tell(int square, int size)
            throws IndexOutOfBoundsException, IllegalArgumentException, UnsupportedOperationException {
        checkSquare(square);
        if (size < 1 || size > MOST_SIZE || sea.dry[square]) {
            throw new IllegalArgumentException("no such size, or land");
        }
        int number = bergToJoin(square, size);
        if (number == NONE) {
            if (bergs.size() >= MOST_BERGS) {
                throw new UnsupportedOperationException("no more bergs");
            }
            number = bergs.size();
            bergs.add(new Berg());
        } else {
            joined++;
        }
        bergs.get(number).setAt(square, size);
        return number;
    }

    public int step(int n) throws IllegalArgumentException {
        if (n < 0 || n > MOST_STEPS) {
            throw new IllegalArgumentException("no such number of steps");
        }
        for (int i = 0; i < n; i++) {
            now++;
            for (int b = 0; b < bergs.size(); b++) {
                bergs.get(b).goOn(sea, drifted);
            }
        }
        return now;
    }

    public int look(int square, int sharpness) throws IndexOutOfBoundsException, IllegalArgumentException {
        checkSquare(square);
        if (sharpness < 0 || sharpness > HUNDRED) {
            throw new IllegalArgumentException("no such sharpness");
        }
        int away = 0;
        for (int b = 0; b < bergs.size(); b++) {
            away += bergs.get(b).lower(square, sharpness);
        }
        return away;
    }

    public int parts(int berg, int square) throws IndexOutOfBoundsException {
        checkBerg(berg);
        checkSquare(square);
        return bergs.get(berg).parts[square];
    }

    public int berg(int berg, int what) throws IndexOutOfBoundsException, NoSuchElementException {
        checkBerg(berg);
        Berg told = bergs.get(berg);
        switch (what) {
            case 0: return told.size;
            case 1: return told.age;
            case 2: return told.gone ? 1 : 0;
            case 3: return squaresAboveZero(told.parts);
            case 4: return told.allParts();
            case 5: return told.out;
            default: throw new NoSuchElementException("nothing such is known of a berg");
        }
    }

    public int limit() {
        gatherParts();
        hull.wrap(gathered);
        return hull.ring.length;
    }

    public int corner(int k, boolean y) {
        gatherParts();
        hull.wrap(gathered);
        if (k < 0 || k >= hull.ring.length) {
            return NONE;
        }
        return y ? hull.ring.ys[k] : hull.ring.xs[k];
    }

    public int warn() {
        gatherParts();
        hull.wrap(gathered);
        int corners = hull.ring.length;
        if (corners == 0 || corners > MOST_CORNERS || warnings.size() >= MOST_WARNINGS) {
            return NONE;
        }
        return addWarning(hull.ring);
    }

    public int read() throws IllegalArgumentException, UnsupportedOperationException {
        firstWrong = text.findFirstWrong();
        tape.length = 0;
        if (firstWrong != NONE) {
            throw new IllegalArgumentException("the text is wrong");
        }
        if (warnings.size() >= MOST_WARNINGS) {
            throw new UnsupportedOperationException("no more warnings");
        }
        return addWarning(text.ring);
    }

    public int fault() {
        return firstWrong;
    }

    public boolean cancel(int warning) throws IndexOutOfBoundsException {
        checkWarning(warning);
        Warning told = warnings.get(warning);
        if (told.cancelled) {
            return false;
        }
        told.cancelled = true;
        told.cancelledAt = now;
        return true;
    }

    public boolean force(int warning, int step) throws IndexOutOfBoundsException {
        checkWarning(warning);
        return warnings.get(warning).holdsAt(step);
    }

    public int write(int warning) throws IndexOutOfBoundsException {
        checkWarning(warning);
        Warning told = warnings.get(warning);
        tape.length = 0;
        tape.putWord("ring ");
        for (int k = 0; k < told.xs.length && k < told.ys.length; k++) {
            if (k > 0) {
                tape.put(',');
            }
            tape.putNumber(told.xs[k]);
            tape.put(BLANK);
            tape.putNumber(told.ys[k]);
        }
        tape.putWord(" end");
        return tape.length;
    }

    public int taped(int i) {
        return i < 0 || i >= tape.length ? NONE : tape.bytes[i];
    }

    public int way(int from, int to, int step) throws IndexOutOfBoundsException {
        checkSquare(from);
        checkSquare(to);
        chart.openAllBut(sea.dry);
        for (int w = 0; w < warnings.size(); w++) {
            if (warnings.get(w).holdsAt(step)) {
                chart.shut(warnings.get(w));
            }
        }
        return chart.shortest(from, to);
    }

    public int flight() {
        gatherParts();
        return heights.most(gathered);
    }

    public int count(int what) {
        switch (what) {
            case 0: return now;
            case 1: return bergs.size();
            case 2: return bergsLeft();
            case 3: return warnings.size();
            case 4: return warningsHolding();
            case 5: gatherParts();
                    return squaresAboveZero(gathered);
            case 6: return tape.length;
            case 7: return joined;
            default: return NONE;
        }
    }

    private static void checkSquare(int square) {
        if (square < 0 || square >= SQUARES) {
            throw new IndexOutOfBoundsException("no such square");
        }
    }

    private void checkBerg(int berg) {
        if (berg < 0 || berg >= bergs.size()) {
            throw new IndexOutOfBoundsException("no such berg");
        }
    }

    private void checkWarning(int warning) {
        if (warning < 0 || warning >= warnings.size()) {
            throw new IndexOutOfBoundsException("no such warning");
        }
    }

    private static boolean isCurrent(int a) {
        return a >= -MOST_CURRENT && a <= MOST_CURRENT;
    }

    private boolean someBergMayBe(int square) {
        for (int b = 0; b < bergs.size(); b++) {
            if (bergs.get(b).parts[square] > 0) {
                return true;
            }
        }
        return false;
    }

    /** The berg that a telling is joined to; NONE if a new one is due. */
    private int bergToJoin(int square, int size) {
        int best = NONE;
        int most = 0;
        for (int b = 0; b < bergs.size(); b++) {
            Berg berg = bergs.get(b);
            if (!berg.gone && berg.size >= size && berg.parts[square] > most) {
                best = b;
                most = berg.parts[square];
            }
        }
        return best;
    }

    private void gatherParts() {
        Arrays.fill(gathered, 0);
        for (int b = 0; b < bergs.size(); b++) {
            int[] parts = bergs.get(b).parts;
            for (int s = 0; s < SQUARES; s++) {
                gathered[s] += parts[s];
            }
        }
    }

    private static int squaresAboveZero(int[] row) {
        int squares = 0;
        for (int s = 0; s < row.length; s++) {
            if (row[s] > 0) {
                squares++;
            }
        }
        return squares;
    }

    private int bergsLeft() {
        int left = 0;
        for (int b = 0; b < bergs.size(); b++) {
            if (!bergs.get(b).gone) {
                left++;
            }
        }
        return left;
    }

    private int warningsHolding() {
        int holding = 0;
        for (int w = 0; w < warnings.size(); w++) {
            if (warnings.get(w).holdsAt(now)) {
                holding++;
            }
        }
        return holding;
    }

    private int addWarning(Ring ring) {
        warnings.add(new Warning(ring, now));
        return warnings.size() - 1;
    }

    /** The square at x, y; NONE outside of the sea. */
    private static int squareAt(int x, int y) {
        return x < 0 || x >= WIDE || y < 0 || y >= TALL ? NONE : y * WIDE + x;
    }

    /** What a square is like. */
    private static final class Sea {
        final boolean[] dry;
        final int[] across;
        final int[] up;
        final int[] warmth;

        Sea() {
            dry = new boolean[SQUARES];
            across = new int[SQUARES];
            up = new int[SQUARES];
            warmth = new int[SQUARES];
            Arrays.fill(warmth, 1);
        }
    }

    /** A berg and where it may be. One that is gone has no parts anywhere. */
    private static final class Berg {
        final int[] parts;
        int size;
        int age;
        int out;
        boolean gone;

        Berg() {
            parts = new int[SQUARES];
            size = 0;
            age = 0;
            out = 0;
            gone = false;
        }

        void setAt(int square, int toldSize) {
            Arrays.fill(parts, 0);
            if (square >= 0 && square < SQUARES) {
                parts[square] = ALL_PARTS;
            }
            size = toldSize;
            age = 0;
            out = 0;
        }

        /** One step. */
        void goOn(Sea sea, int[] drifted) {
            if (gone) {
                return;
            }
            drift(sea, drifted);
            spread(sea, drifted);
            melt(sea);
            age++;
        }

        private void drift(Sea sea, int[] drifted) {
            Arrays.fill(drifted, 0);
            for (int s = 0; s < SQUARES; s++) {
                if (parts[s] > 0) {
                    int to = squareAt(s % WIDE + sea.across[s], s / WIDE + sea.up[s]);
                    if (to == NONE) {
                        out += parts[s];
                    } else {
                        drifted[sea.dry[to] ? s : to] += parts[s];
                    }
                }
            }
        }

        private void spread(Sea sea, int[] drifted) {
            Arrays.fill(parts, 0);
            for (int s = 0; s < SQUARES; s++) {
                if (drifted[s] > 0) {
                    parts[s] += drifted[s] - giveToSides(sea, s, drifted[s] / 8);
                }
            }
        }

        /** How many parts all sides took together. */
        private int giveToSides(Sea sea, int square, int toEach) {
            int given = 0;
            for (int k = 0; k < SIDES; k++) {
                int side = squareAt(square % WIDE + ROUND_X[k], square / WIDE + ROUND_Y[k]);
                if (side != NONE && !sea.dry[side]) {
                    parts[side] += toEach;
                    given += toEach;
                }
            }
            return given;
        }

        /** A berg that may be nowhere keeps its size: no square's warmth was met. */
        private void melt(Sea sea) {
            int least = NONE;
            for (int s = 0; s < SQUARES; s++) {
                if (parts[s] > 0 && (least == NONE || sea.warmth[s] < least)) {
                    least = sea.warmth[s];
                }
            }
            if (least == NONE) {
                gone = true;
                return;
            }
            size -= least;
            if (size <= 0) {
                gone = true;
                Arrays.fill(parts, 0);
            }
        }

        /** A look in vain: how many parts are away by it. */
        int lower(int square, int sharpness) {
            if (square < 0 || square >= SQUARES || gone) {
                return 0;
            }
            int away = (parts[square] * sharpness + HUNDRED - 1) / HUNDRED;
            parts[square] -= away;
            if (allParts() == 0) {
                gone = true;
            }
            return away;
        }

        int allParts() {
            int sum = 0;
            for (int s = 0; s < SQUARES; s++) {
                sum += parts[s];
            }
            return sum;
        }
    }

    /** Corners in their order; there is room for all that a limit can be made of. */
    private static final class Ring {
        final int[] xs;
        final int[] ys;
        int length;

        Ring() {
            xs = new int[2 * (WIDE + 1)];
            ys = new int[2 * (WIDE + 1)];
            length = 0;
        }

        void add(int x, int y) {
            if (length >= 0 && length < xs.length && length < ys.length) {
                xs[length] = x;
                ys[length] = y;
                length++;
            }
        }

        /** Drops corners, none before the one numbered first, from behind until the way to x, y turns left. */
        void dropForLeftTurn(int first, int x, int y) {
            while (first >= 0 && length >= first + 2 && length <= xs.length && !turnsLeft(length - 2, length - 1, x, y)) {
                length--;
            }
        }

        private boolean turnsLeft(int a, int b, int x, int y) {
            return (xs[b] - xs[a]) * (y - ys[b]) - (ys[b] - ys[a]) * (x - xs[b]) > 0;
        }
    }

    /** The least ring around squares. */
    private static final class Hull {
        final Ring ring;
        /** Of each x the lowest and the highest corner: none between these can be a corner of the ring. */
        private final int[] lowest;
        private final int[] highest;

        Hull() {
            ring = new Ring();
            lowest = new int[WIDE + 1];
            highest = new int[WIDE + 1];
        }

        void wrap(int[] gathered) {
            Arrays.fill(lowest, TALL + 1);
            Arrays.fill(highest, NONE);
            for (int s = 0; s < SQUARES && s < gathered.length; s++) {
                if (gathered[s] > 0) {
                    stretch(s % WIDE, s / WIDE);
                    stretch(s % WIDE + 1, s / WIDE);
                }
            }
            ring.length = 0;
            goBelow();
            goAbove(ring.length);
        }

        /** A side of a square that stands upright, from y to y + 1. */
        private void stretch(int x, int y) {
            lowest[x] = Math.min(lowest[x], y);
            highest[x] = Math.max(highest[x], y + 1);
        }

        private void goBelow() {
            for (int x = 0; x <= WIDE; x++) {
                if (highest[x] != NONE) {
                    ring.dropForLeftTurn(0, x, lowest[x]);
                    ring.add(x, lowest[x]);
                }
            }
        }

        /** Where the way above begins and ends, it is higher than the way below, so the two share no corner. */
        private void goAbove(int first) {
            for (int x = WIDE; x >= 0; x--) {
                if (highest[x] != NONE) {
                    ring.dropForLeftTurn(first, x, highest[x]);
                    ring.add(x, highest[x]);
                }
            }
        }
    }

    /** A ring of corners that is in force from one step on, up to another. */
    private static final class Warning {
        final int[] xs;
        final int[] ys;
        final int toldAt;
        /** Which squares it has: of each y a bit for each x. Found once, since ways ask for it often. */
        final int[] within;
        boolean cancelled;
        int cancelledAt;

        Warning(Ring ring, int now) {
            int corners = Math.min(Math.max(ring.length, 0), MOST_CORNERS);
            xs = Arrays.copyOf(ring.xs, corners);
            ys = Arrays.copyOf(ring.ys, corners);
            toldAt = now;
            within = new int[TALL];
            cancelled = false;
            cancelledAt = 0;
            for (int s = 0; s < SQUARES; s++) {
                if (isWithin(s % WIDE, s / WIDE)) {
                    within[s / WIDE] |= 1 << s % WIDE;
                }
            }
        }

        boolean holdsAt(int step) {
            return step >= toldAt && (!cancelled || step < cancelledAt);
        }

        private boolean isWithin(int x, int y) {
            boolean odd = false;
            int last = xs.length - 1;
            for (int k = 0; k < xs.length && k < ys.length; k++) {
                if (passes(last, k, x, y)) {
                    odd = !odd;
                }
                last = k;
            }
            return odd;
        }

        /** Whether a side goes by on the right of a square's middle; all is doubled, so that the middle is whole. */
        private boolean passes(int from, int to, int x, int y) {
            boolean fromHigher = ys[from] > y;
            boolean toHigher = ys[to] > y;
            if (fromHigher == toHigher) {
                return false;
            }
            int low = fromHigher ? to : from;
            int high = fromHigher ? from : to;
            int middleX = 2 * x + 1 - 2 * xs[low];
            int middleY = 2 * y + 1 - 2 * ys[low];
            return middleX * (ys[high] - ys[low]) < middleY * (xs[high] - xs[low]);
        }
    }

    /** The bytes between the calls. */
    private static final class Tape {
        final int[] bytes;
        int length;

        Tape() {
            bytes = new int[MOST_BYTES];
            length = 0;
        }

        void put(int b) {
            if (length >= 0 && length < bytes.length) {
                bytes[length] = b & 255;
                length++;
            }
        }

        void putFour(int four) {
            put(four >>> 24);
            put(four >>> 16);
            put(four >>> 8);
            put(four);
        }

        void putWord(String word) {
            for (int i = 0; i < word.length(); i++) {
                put(word.charAt(i));
            }
        }

        /** A number from 0 to 99. */
        void putNumber(int number) {
            if (number >= 10) {
                put('0' + number / 10);
            }
            put('0' + number % 10);
        }
    }

    /** Has the tape, and reads it as the text of a warning. */
    private static final class Text {
        final Tape tape;
        final Ring ring;
        private int at;

        Text() {
            tape = new Tape();
            ring = new Ring();
            at = 0;
        }

        /** The first wrong byte; NONE if there is none: then the ring has the corners. */
        int findFirstWrong() {
            at = 0;
            ring.length = 0;
            boolean right = takeWord("ring") && takeCorners() && takeWord("end");
            skipBlanks();
            return right && at >= tape.length ? NONE : at;
        }

        private boolean takeCorners() {
            for (int k = 1; k <= MOST_CORNERS; k++) {
                if (!takeCorner()) {
                    return false;
                }
                skipBlanks();
                if (here(at) != ',') {
                    return k >= LEAST_CORNERS;
                }
                if (k < MOST_CORNERS) {
                    at++;
                }
            }
            return false;
        }

        private boolean takeCorner() {
            int x = takeNumber(WIDE);
            if (x == NONE) {
                return false;
            }
            int y = takeNumber(TALL);
            if (y == NONE) {
                return false;
            }
            ring.add(x, y);
            return true;
        }

        /** A number from 0 to most; NONE, and the place stays at its begin, if none such stands there. */
        private int takeNumber(int most) {
            skipBlanks();
            int behind = at;
            while (behind < tape.length && isDigit(here(behind))) {
                behind++;
            }
            if (behind == at || behind > at + 2) {
                return NONE;
            }
            int number = 0;
            for (int i = at; i < behind; i++) {
                number = number * 10 + here(i) - '0';
            }
            if (number > most) {
                return NONE;
            }
            at = behind;
            return number;
        }

        /** Whether just this word stands there; if not, the place stays at its begin. */
        private boolean takeWord(String word) {
            skipBlanks();
            int behind = at;
            while (behind < tape.length && isLetter(here(behind))) {
                behind++;
            }
            if (behind - at != word.length()) {
                return false;
            }
            for (int i = 0; i < word.length(); i++) {
                if (here(at + i) != word.charAt(i)) {
                    return false;
                }
            }
            at = behind;
            return true;
        }

        private void skipBlanks() {
            while (at < tape.length && here(at) == BLANK) {
                at++;
            }
        }

        private int here(int i) {
            return i < 0 || i >= tape.length || i >= tape.bytes.length ? NONE : tape.bytes[i];
        }

        private static boolean isDigit(int b) {
            return b >= '0' && b <= '9';
        }

        private static boolean isLetter(int b) {
            return b >= 'a' && b <= 'z';
        }
    }

    /** Ways for ships. */
    private static final class Chart {
        private final boolean[] shut;
        /** How far a square is from the first one; NONE as long as no way to it was met. */
        private final int[] far;
        /** Squares that a way was met to and from which none was followed yet. */
        private final int[] waiting;
        private int waitingLength;

        Chart() {
            shut = new boolean[SQUARES];
            far = new int[SQUARES];
            waiting = new int[SQUARES];
            waitingLength = 0;
        }

        void openAllBut(boolean[] dry) {
            for (int s = 0; s < SQUARES && s < dry.length; s++) {
                shut[s] = dry[s];
            }
        }

        void shut(Warning warning) {
            for (int s = 0; s < SQUARES; s++) {
                if ((warning.within[s / WIDE] >> s % WIDE & 1) != 0) {
                    shut[s] = true;
                }
            }
        }

        int shortest(int from, int to) {
            if (isShut(from) || isShut(to)) {
                return NONE;
            }
            Arrays.fill(far, NONE);
            waitingLength = 0;
            meet(from, 0);
            for (int i = 0; i < SQUARES && waitingLength > 0; i++) {
                int square = takeNearest();
                if (square == to) {
                    return far[square];
                }
                follow(square);
            }
            return NONE;
        }

        private boolean isShut(int square) {
            return square < 0 || square >= SQUARES || shut[square];
        }

        private void follow(int square) {
            for (int k = 0; k < NEIGHBOURS; k++) {
                int next = squareAt(square % WIDE + ROUND_X[k], square / WIDE + ROUND_Y[k]);
                if (!isShut(next)) {
                    meet(next, far[square] + (k < SIDES ? STRAIGHT : SLANTWISE));
                }
            }
        }

        private void meet(int square, int length) {
            if (far[square] == NONE && waitingLength < SQUARES) {
                waiting[waitingLength] = square;
                waitingLength++;
                far[square] = length;
            } else if (length < far[square]) {
                far[square] = length;
            }
        }

        /** Called only while some square waits. */
        private int takeNearest() {
            int best = 0;
            for (int i = 1; i < waitingLength; i++) {
                if (far[waiting[i]] < far[waiting[best]]) {
                    best = i;
                }
            }
            int square = waiting[best];
            waitingLength--;
            waiting[best] = waiting[waitingLength];
            return square;
        }
    }

    /** Flights: the most that one sees that ends at a height, column by column. */
    private static final class Heights {
        private final int[] here;
        private final int[] before;

        Heights() {
            here = new int[TALL];
            before = new int[TALL];
        }

        int most(int[] gathered) {
            Arrays.fill(here, 0);
            for (int x = 0; x < WIDE; x++) {
                System.arraycopy(here, 0, before, 0, TALL);
                for (int y = 0; y < TALL; y++) {
                    here[y] = bestBefore(y) + gathered[y * WIDE + x];
                }
            }
            int most = 0;
            for (int y = 0; y < TALL; y++) {
                most = Math.max(most, here[y]);
            }
            return most;
        }

        private int bestBefore(int y) {
            int best = before[y];
            if (y > 0) {
                best = Math.max(best, before[y - 1]);
            }
            if (y < TALL - 1) {
                best = Math.max(best, before[y + 1]);
            }
            return best;
        }
    }
}
