import java.util.NoSuchElementException;

/** Promises 1 a new object, 4 water, 5 land, 6 tell, 7 step, 8 look, 9 parts, 10 berg. */
public final class BergTest {
    private static final int ALL = 1000000;

    public static void main(String[] args) {
        startsEmpty();
        takesWater();
        takesLand();
        tellsNew();
        joins();
        joinsTheMost();
        refusesTheEleventh();
        drifts();
        driftsAllAtOnce();
        spreads();
        melts();
        melted();
        leaves();
        looks();
        looksAway();
        everySquare();
        onePart();
        refusesWrongNumbers();
        Check.end();
    }

    private static void startsEmpty() {
        BergPatrol p = new BergPatrol();
        for (int what = 0; what <= 7; what++) {
            Check.same("new object, count " + what, p.count(what), 0);
        }
        Check.same("new object, fault", p.fault(), BergPatrol.NONE);
        Check.same("new object, limit", p.limit(), 0);
        Check.same("new object, flight", p.flight(), 0);
        for (int s = 0; s < 280; s++) {
            Check.same("no land at " + s, p.way(s, s, 0), 0);
        }
        Check.noIndex("new object, parts", () -> p.parts(0, 0));
        Check.noIndex("new object, berg", () -> p.berg(0, 0));
        Check.noIndex("new object, force", () -> p.force(0, 0));
        p.tell(105, 3);
        p.step(1);
        Check.same("current 0, 0 at first", p.parts(0, 105), 500000);
        Check.same("warmth 1 at first", p.berg(0, 0), 2);
    }

    private static void takesWater() {
        BergPatrol p = new BergPatrol();
        int[] wrongSquares = {-1, 280, Integer.MIN_VALUE, Integer.MAX_VALUE};
        for (int square : wrongSquares) {
            Check.noIndex("water of square " + square, () -> p.water(square, 0, 0, 0));
            Check.noIndex("water of square " + square + ", all wrong", () -> p.water(square, 9, 9, 99));
        }
        int[][] wrong = {{3, 0, 0}, {-3, 0, 0}, {0, 3, 0}, {0, -3, 0}, {0, 0, -1}, {0, 0, 51},
            {Integer.MIN_VALUE, 0, 0}, {0, Integer.MAX_VALUE, 0}, {0, 0, Integer.MIN_VALUE}};
        p.water(105, 1, 0, 2);
        for (int[] w : wrong) {
            Check.noArgument("water " + w[0] + " " + w[1] + " " + w[2], () -> p.water(105, w[0], w[1], w[2]));
        }
        p.water(0, -2, -2, 0);
        p.water(279, 2, 2, 50);
        p.tell(105, 10);
        p.step(1);
        Check.same("what was refused changed nothing", p.parts(0, 106), 500000);
        Check.same("warmth of where it is now", p.berg(0, 0), 9);
    }

    private static void takesLand() {
        BergPatrol p = new BergPatrol();
        Check.noIndex("land -1", () -> p.land(-1, true));
        Check.noIndex("land 280", () -> p.land(280, false));
        p.land(21, true);
        p.land(21, true);
        Check.same("way to land", p.way(0, 21, 0), BergPatrol.NONE);
        p.land(21, false);
        Check.same("way to what is none again", p.way(0, 21, 0), 7);
        p.land(21, false);
        p.tell(21, 100);
        Check.throwsJust("land where a berg may be", IllegalStateException.class, () -> p.land(21, true));
        p.land(21, false);
        Check.same("no land", p.way(21, 21, 0), 0);
        p.look(21, 100);
        p.land(21, true);
        Check.same("land where one that is gone was", p.way(21, 21, 0), BergPatrol.NONE);
        p.tell(100, 5);
        p.tell(200, 5);
        p.step(1);
        Check.throwsJust("land where the last berg may be", IllegalStateException.class, () -> p.land(201, true));
        p.land(202, true);
    }

    private static void tellsNew() {
        BergPatrol p = new BergPatrol();
        Check.noIndex("tell -1", () -> p.tell(-1, 5));
        Check.noIndex("tell 280", () -> p.tell(280, 0));
        Check.noArgument("tell size 0", () -> p.tell(0, 0));
        Check.noArgument("tell size 1001", () -> p.tell(0, 1001));
        Check.noArgument("tell size least", () -> p.tell(0, Integer.MIN_VALUE));
        p.land(7, true);
        Check.noArgument("tell on land", () -> p.tell(7, 5));
        Check.same("no berg by these", p.count(1), 0);
        Check.same("first", p.tell(0, 1), 0);
        Check.same("second", p.tell(279, 1000), 1);
        Check.same("size", p.berg(0, 0), 1);
        Check.same("size", p.berg(1, 0), 1000);
        Check.same("age", p.berg(1, 1), 0);
        Check.same("not gone", p.berg(1, 2), 0);
        Check.same("squares", p.berg(1, 3), 1);
        Check.same("all parts", p.berg(1, 4), ALL);
        Check.same("out", p.berg(1, 5), 0);
        Check.same("parts there", p.parts(1, 279), ALL);
        Check.same("parts elsewhere", p.parts(1, 0), 0);
        Check.same("none joined", p.count(7), 0);
    }

    private static void joins() {
        BergPatrol p = new BergPatrol();
        p.water(0, -1, 0, 1);
        p.tell(1, 100);
        p.step(2);
        Check.same("some parts are out", p.berg(0, 5), 125000);
        Check.same("size", p.berg(0, 0), 98);
        Check.same("age", p.berg(0, 1), 2);
        Check.same("joined, of the same size", p.tell(2, 98), 0);
        Check.same("size", p.berg(0, 0), 98);
        Check.same("age", p.berg(0, 1), 0);
        Check.same("out since it was told last", p.berg(0, 5), 0);
        Check.same("squares", p.berg(0, 3), 1);
        Check.same("all parts", p.berg(0, 4), ALL);
        Check.same("parts", p.parts(0, 2), ALL);
        Check.same("joined, of a lower size", p.tell(2, 40), 0);
        Check.same("its size is that", p.berg(0, 0), 40);
        Check.same("a greater size is a new one", p.tell(2, 41), 1);
        Check.same("another square is a new one", p.tell(3, 1), 2);
        Check.same("joined", p.count(7), 2);
        Check.same("bergs", p.count(1), 3);
    }

    private static void joinsTheMost() {
        BergPatrol p = new BergPatrol();
        p.tell(42, 10);
        p.tell(42, 11);
        p.tell(42, 12);
        p.look(42, 0);
        Check.same("of several with as many the least number", p.tell(42, 5), 0);
        p.tell(43, 10);
        p.step(1);
        Check.same("parts of 1", p.parts(1, 43), 125000);
        Check.same("parts of 3", p.parts(3, 43), 500000);
        Check.same("the most parts", p.tell(43, 3), 3);
        p.step(1);
        Check.same("the most parts that have the size", p.tell(43, 9), 1);
        p.look(43, 100);
        Check.same("that which is gone", p.berg(1, 2), 1);
        Check.same("is not joined", p.tell(43, 1), 4);
    }

    private static void refusesTheEleventh() {
        BergPatrol p = new BergPatrol();
        for (int b = 0; b < 10; b++) {
            Check.same("berg " + b, p.tell(b * 20, 50), b);
        }
        Check.notSupported("tell the eleventh", () -> p.tell(5, 50));
        Check.notSupported("tell a greater one", () -> p.tell(20, 51));
        Check.noArgument("a wrong size goes ahead", () -> p.tell(5, 1001));
        Check.same("joined all the same", p.tell(20, 50), 1);
        p.look(20, 100);
        Check.notSupported("one that is gone counts", () -> p.tell(20, 50));
        Check.same("bergs", p.count(1), 10);
        Check.same("joined", p.count(7), 1);
    }

    private static void drifts() {
        BergPatrol p = new BergPatrol();
        p.water(105, 2, -1, 1);
        p.tell(105, 100);
        Check.same("step", p.step(1), 1);
        Check.same("parts", p.parts(0, 87), 500000);
        Check.same("parts beside", p.parts(0, 107), 125000);
        Check.same("parts where it was", p.parts(0, 105), 0);
        BergPatrol q = new BergPatrol();
        q.water(105, -2, 2, 1);
        q.land(143, true);
        q.tell(105, 100);
        q.step(1);
        Check.same("it stays before land", q.parts(0, 105), 500000);
        q.land(143, false);
        q.land(124, true);
        q.tell(105, 50);
        q.step(1);
        Check.same("land between does not hold it", q.parts(0, 143), 500000);
        edgesOut();
    }

    private static void edgesOut() {
        int[][] cases = {{0, -1, 0}, {0, 0, -1}, {19, 1, 0}, {260, 0, 1}, {279, 2, 0}, {258, 2, 0}, {240, 0, 2}};
        for (int[] c : cases) {
            BergPatrol p = new BergPatrol();
            p.water(c[0], c[1], c[2], 5);
            p.tell(c[0], 100);
            p.step(1);
            Check.same("out of " + c[0], p.berg(0, 5), ALL);
            Check.same("gone out of " + c[0], p.berg(0, 2), 1);
        }
        BergPatrol p = new BergPatrol();
        p.water(257, 2, 0, 5);
        p.water(220, 0, 2, 5);
        p.tell(257, 100);
        p.tell(220, 100);
        p.step(1);
        Check.same("just within", p.parts(0, 259), 625000);
        Check.same("just within", p.parts(1, 260), 750000);
        Check.same("none is out", p.berg(0, 5), 0);
    }

    /** Two squares that change places, and a berg that meets itself. */
    private static void driftsAllAtOnce() {
        BergPatrol p = new BergPatrol();
        p.tell(105, 100);
        p.step(1);
        p.water(105, 1, 0, 1);
        p.water(106, -1, 0, 1);
        p.water(104, 2, 0, 1);
        p.step(1);
        // 106: 500000 of 105 and 125000 of 104; 105: 125000 of 106; 85, 125: 125000 each.
        Check.same("parts of 106", p.parts(0, 106), 625000 / 2 + 125000 / 8);
        Check.same("parts of 105", p.parts(0, 105), 125000 / 2 + 625000 / 8 + 2 * (125000 / 8));
        Check.same("all", p.berg(0, 4), ALL);
    }

    private static void spreads() {
        BergPatrol p = new BergPatrol();
        p.land(1, true);
        p.tell(0, 100);
        p.step(1);
        Check.same("not over the edge, not on land", p.parts(0, 0), 875000);
        Check.same("above", p.parts(0, 20), 125000);
        Check.same("nor slantwise", p.parts(0, 21), 0);
        Check.same("nor round the edge", p.parts(0, 19), 0);
        BergPatrol q = new BergPatrol();
        q.tell(50, 1000);
        q.step(3);
        int[] sum = spreadBySteps(50, 3);
        for (int s = 0; s < 280; s++) {
            Check.same("spread, parts of " + s, q.parts(0, s), sum[s]);
        }
        BergPatrol r = new BergPatrol();
        r.tell(105, 1000);
        for (int i = 0; i < 13; i++) {
            r.look(105, 90);
        }
        Check.same("no part stays", r.berg(0, 4), 0);
        fewParts();
    }

    private static void fewParts() {
        BergPatrol p = new BergPatrol();
        p.tell(105, 1000);
        p.look(105, 99);
        p.look(105, 99);
        Check.same("parts left", p.berg(0, 4), 100);
        p.look(105, 85);
        Check.same("parts left", p.berg(0, 4), 15);
        p.step(1);
        Check.same("an eighth, rounded down", p.parts(0, 104), 1);
        Check.same("the rest stays", p.parts(0, 105), 11);
        p.look(105, 34);
        Check.same("parts left", p.parts(0, 105), 7);
        p.step(50);
        Check.same("fewer than eight do not spread", p.parts(0, 105), 7);
        Check.same("squares", p.berg(0, 3), 5);
    }

    private static int[] spreadBySteps(int square, int steps) {
        int[] parts = new int[280];
        parts[square] = ALL;
        for (int i = 0; i < steps; i++) {
            int[] next = new int[280];
            for (int s = 0; s < 280; s++) {
                int eighth = parts[s] / 8;
                int rest = parts[s];
                for (int t = 0; t < 280; t++) {
                    if (Math.abs(t % 20 - s % 20) + Math.abs(t / 20 - s / 20) == 1) {
                        next[t] += eighth;
                        rest -= eighth;
                    }
                }
                next[s] += rest;
            }
            parts = next;
        }
        return parts;
    }

    private static void melts() {
        BergPatrol p = new BergPatrol();
        p.water(105, 0, 0, 50);
        p.tell(105, 100);
        p.step(1);
        Check.same("the least warmth, behind the spread", p.berg(0, 0), 99);
        for (int s = 0; s < 280; s++) {
            p.water(s, 0, 0, 20);
        }
        p.water(125, 0, 0, 7);
        p.step(1);
        Check.same("the least warmth", p.berg(0, 0), 92);
        p.water(0, 0, 0, 0);
        p.step(1);
        Check.same("not that of squares where it is not", p.berg(0, 0), 85);
        p.water(125, 0, 0, 0);
        p.step(2);
        Check.same("warmth 0", p.berg(0, 0), 85);
        Check.same("age", p.berg(0, 1), 5);
    }

    private static void melted() {
        BergPatrol p = new BergPatrol();
        for (int s = 0; s < 280; s++) {
            p.water(s, 0, 0, 30);
        }
        p.tell(105, 60);
        p.tell(200, 61);
        p.step(1);
        Check.same("not yet gone", p.berg(0, 2), 0);
        Check.same("step 2", p.step(1), 2);
        Check.same("size 0 is gone", p.berg(0, 2), 1);
        Check.same("size", p.berg(0, 0), 0);
        Check.same("no parts", p.berg(0, 4), 0);
        Check.same("nowhere", p.berg(0, 3), 0);
        Check.same("none out", p.berg(0, 5), 0);
        Check.same("size 1 is not", p.berg(1, 2), 0);
        Check.same("age", p.berg(0, 1), 2);
        Check.same("step 0", p.step(0), 2);
        p.step(1);
        Check.same("size below 0", p.berg(1, 0), -29);
        Check.same("gone", p.berg(1, 2), 1);
        p.step(5);
        Check.same("size of one that is gone", p.berg(1, 0), -29);
        Check.same("age of one that is gone", p.berg(0, 1), 2);
        Check.same("age of one that is gone", p.berg(1, 1), 3);
        Check.same("now", p.count(0), 8);
        Check.same("left", p.count(2), 0);
    }

    private static void leaves() {
        BergPatrol p = new BergPatrol();
        for (int s = 0; s < 280; s++) {
            p.water(s, 2, 0, 1);
        }
        p.tell(17, 100);
        p.step(1);
        Check.same("at the edge", p.parts(0, 19), 750000);
        Check.same("none out", p.berg(0, 5), 0);
        p.step(1);
        Check.same("all are out", p.berg(0, 5), ALL);
        Check.same("size is no less when it may be nowhere", p.berg(0, 0), 99);
        Check.same("gone", p.berg(0, 2), 1);
        Check.same("age", p.berg(0, 1), 2);
        p.step(3);
        Check.same("age stays", p.berg(0, 1), 2);
        Check.same("out stays", p.berg(0, 5), ALL);
    }

    private static void looks() {
        BergPatrol p = new BergPatrol();
        p.tell(105, 10);
        p.tell(105, 11);
        Check.same("sharpness 0", p.look(105, 0), 0);
        Check.same("both", p.look(105, 1), 20000);
        Check.same("parts", p.parts(0, 105), 990000);
        Check.same("elsewhere", p.look(106, 100), 0);
        p.land(106, true);
        Check.same("on land", p.look(106, 100), 0);
        p.look(105, 99);
        Check.same("parts", p.parts(0, 105), 9900);
        p.look(105, 99);
        Check.same("parts", p.parts(1, 105), 99);
        Check.same("rounded up, of each", p.look(105, 1), 2);
        Check.same("parts", p.parts(1, 105), 98);
        Check.same("rounded up", p.look(105, 34), 2 * 34);
        Check.same("parts", p.parts(1, 105), 64);
        Check.same("size stays", p.berg(1, 0), 11);
        Check.same("out stays", p.berg(1, 5), 0);
        Check.noIndex("look -1", () -> p.look(-1, 5));
        Check.noIndex("look 280", () -> p.look(280, 101));
        Check.noArgument("sharpness -1", () -> p.look(0, -1));
        Check.noArgument("sharpness 101", () -> p.look(0, 101));
        Check.noArgument("sharpness most", () -> p.look(0, Integer.MAX_VALUE));
    }

    private static void looksAway() {
        BergPatrol p = new BergPatrol();
        p.tell(105, 10);
        p.step(1);
        int[] squares = {85, 104, 105, 106};
        for (int s : squares) {
            p.look(s, 100);
            Check.same("not gone", p.berg(0, 2), 0);
        }
        Check.same("the last parts", p.look(125, 100), 125000);
        Check.same("gone", p.berg(0, 2), 1);
        Check.same("size stays", p.berg(0, 0), 9);
        Check.same("age stays", p.berg(0, 1), 1);
        p.step(2);
        Check.same("size stays", p.berg(0, 0), 9);
        Check.same("age stays", p.berg(0, 1), 1);
        p.tell(105, 10);
        for (int i = 0; i < 200; i++) {
            p.look(105, 10);
        }
        Check.same("gone by many looks, since they round up", p.berg(1, 2), 1);
    }

    /** No square is left out: where it is told, looked at, melts and becomes land. */
    private static void everySquare() {
        for (int s = 0; s < 280; s++) {
            BergPatrol p = new BergPatrol();
            int square = s;
            p.water(s, 0, 0, 0);
            Check.same("tell at " + s, p.tell(s, 9), 0);
            Check.same("parts at " + s, p.parts(0, s), ALL);
            Check.same("all parts at " + s, p.berg(0, 4), ALL);
            Check.same("squares at " + s, p.berg(0, 3), 1);
            Check.throwsJust("land at " + s, IllegalStateException.class, () -> p.land(square, true));
            p.step(1);
            Check.same("warmth of " + s, p.berg(0, 0), 9);
            Check.same("all parts around " + s, p.berg(0, 4), ALL);
            for (int t = 0; t < 280; t++) {
                if (t != s) {
                    p.look(t, 100);
                }
            }
            Check.same("not yet gone from " + s, p.berg(0, 2), 0);
            Check.same("joined at " + s, p.tell(s, 9), 0);
            Check.same("a look at " + s, p.look(s, 100), ALL);
            Check.same("gone from " + s, p.berg(0, 2), 1);
        }
    }

    /** A berg may be where a single part of it is. */
    private static void onePart() {
        BergPatrol p = new BergPatrol();
        p.water(106, 0, 0, 0);
        p.tell(106, 100);
        p.look(106, 99);
        p.look(106, 99);
        p.look(106, 99);
        Check.same("one part", p.parts(0, 106), 1);
        Check.throwsJust("land there", IllegalStateException.class, () -> p.land(106, true));
        Check.same("limit there", p.limit(), 4);
        Check.same("squares", p.count(5), 1);
        p.step(1);
        Check.same("its warmth counts", p.berg(0, 0), 100);
        Check.same("it is joined", p.tell(106, 100), 0);
        p.look(106, 99);
        p.look(106, 99);
        p.look(106, 99);
        Check.same("a hundredth of one, rounded up", p.look(106, 1), 1);
        Check.same("gone", p.berg(0, 2), 1);
        Check.same("one that is gone has nothing to look at", p.look(106, 100), 0);
    }

    private static void refusesWrongNumbers() {
        BergPatrol p = new BergPatrol();
        p.tell(0, 5);
        Check.noIndex("parts of berg 1", () -> p.parts(1, 0));
        Check.noIndex("parts of berg -1", () -> p.parts(-1, 0));
        Check.noIndex("parts of square 280", () -> p.parts(0, 280));
        Check.noIndex("parts of square -1", () -> p.parts(0, -1));
        Check.noIndex("berg 1", () -> p.berg(1, 0));
        Check.noIndex("berg -1, what 9", () -> p.berg(-1, 9));
        Check.throwsJust("what 6", NoSuchElementException.class, () -> p.berg(0, 6));
        Check.throwsJust("what -1", NoSuchElementException.class, () -> p.berg(0, -1));
        Check.noArgument("step -1", () -> p.step(-1));
        Check.noArgument("step 51", () -> p.step(51));
        Check.noArgument("step most", () -> p.step(Integer.MAX_VALUE));
        Check.same("no step by these", p.count(0), 0);
        Check.same("step 0", p.step(0), 0);
        Check.same("age", p.berg(0, 1), 0);
        Check.same("step 50", p.step(50), 50);
        Check.same("size", p.berg(0, 0), 0);
        Check.same("age when it melted", p.berg(0, 1), 5);
    }
}
