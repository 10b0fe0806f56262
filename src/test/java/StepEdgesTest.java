/** The edges that Terms 1 names of a STEP, and those of promise 7 step: a test for each sentence. */
public final class StepEdgesTest {
    private static final int MIDDLE = 150;
    private static final int[] SIDES = {1, -1, 20, -20};

    public static void main(String[] args) {
        howMany();
        notSoMany();
        nowIsOneMore();
        goneOnesStay();
        byNumbers();
        driftsAllAtOnce();
        driftsByItsCurrent();
        stopsAtLand();
        goesOverLand();
        notAroundTheEdge();
        spreadsAllAtOnce();
        eighths();
        besideInTheSea();
        besideNoLand();
        notSlantwise();
        theRestStays();
        leastWarmth();
        leastWarmthOfOnePart();
        atZeroOrBelow();
        nowhere();
        partsAreAway();
        ageIsOneMore();
        Check.end();
    }

    private static void howMany() {
        Check.about("Promise 7: So many STEPS: NOW (0 to 50)");
        BergPatrol p = Seas.with(MIDDLE);
        Check.same("step 0", p.step(0), 0);
        Check.same("parts stay", p.parts(0, MIDDLE), Seas.ALL);
        Check.same("size stays", p.berg(0, 0), 100);
        Check.same("age stays", p.berg(0, 1), 0);
        Check.same("step 1", p.step(1), 1);
        Check.same("step 50", p.step(50), 51);
        Check.same("size", p.berg(0, 0), 49);
        Check.same("age", p.berg(0, 1), 51);
        BergPatrol q = Seas.with(MIDDLE);
        for (int i = 0; i < 51; i++) {
            q.step(1);
        }
        for (int s = 0; s < Seas.SQUARES; s++) {
            Check.same("as by single steps, parts of " + s, p.parts(0, s), q.parts(0, s));
        }
    }

    private static void notSoMany() {
        Check.about("Promise 7: IllegalArgumentException: not 0 to 50");
        BergPatrol p = Seas.with(MIDDLE);
        int[] none = {-1, 51, Integer.MIN_VALUE, Integer.MAX_VALUE};
        for (int n : none) {
            Check.noArgument("step " + n, () -> p.step(n));
        }
        Check.same("now stays", p.count(0), 0);
        Check.same("parts stay", p.parts(0, MIDDLE), Seas.ALL);
    }

    private static void nowIsOneMore() {
        Check.about("Terms 1: NOW is one more");
        BergPatrol p = new BergPatrol();
        Check.same("without bergs", p.step(1), 1);
        Check.same("without bergs, 50", p.step(50), 51);
        p.tell(0, 1);
        Check.same("as the berg melts", p.step(1), 52);
        Check.same("with gone ones alone", p.step(3), 55);
        Check.same("now", p.count(0), 55);
    }

    private static void goneOnesStay() {
        Check.about("Terms 1: then each BERG that is not GONE");
        BergPatrol p = Seas.with(MIDDLE, 42);
        p.step(1);
        for (int side : SIDES) {
            p.look(MIDDLE + side, 100);
        }
        p.look(MIDDLE, 100);
        p.step(2);
        Check.same("size of the one that is gone", p.berg(0, 0), 99);
        Check.same("age of the one that is gone", p.berg(0, 1), 1);
        Check.same("parts of the one that is gone", p.berg(0, 4), 0);
        Check.same("it stays gone", p.berg(0, 2), 1);
        Check.same("size of the other one", p.berg(1, 0), 97);
        Check.same("age of the other one", p.berg(1, 1), 3);
    }

    private static void byNumbers() {
        Check.about("Terms 1: each BERG, by numbers: none is left out, none changes another");
        BergPatrol ten = new BergPatrol();
        for (int b = 0; b < 10; b++) {
            ten.tell(20 * b + 2 * b, 100 + b);
        }
        ten.step(3);
        for (int b = 0; b < 10; b++) {
            BergPatrol one = new BergPatrol();
            one.tell(22 * b, 100 + b);
            one.step(3);
            Check.same("size of " + b, ten.berg(b, 0), 97 + b);
            Check.same("age of " + b, ten.berg(b, 1), 3);
            Check.same("squares of " + b, ten.berg(b, 3), one.berg(0, 3));
            for (int s = 22 * b; s < 22 * b + 3; s++) {
                Check.same("parts of " + b + " in " + s, ten.parts(b, s), one.parts(0, s));
            }
        }
    }

    private static void driftsAllAtOnce() {
        Check.about("Terms 1: (a) DRIFT, all at once");
        for (int side : SIDES) {
            BergPatrol p = Seas.with(MIDDLE);
            p.step(1);
            int across = side % 20;
            int up = side / 20;
            p.water(MIDDLE, across, up, 1);
            p.water(MIDDLE + side, -across, -up, 1);
            p.step(1);
            // They changed places: 125000 in the middle, 500000 beside it, and 125000 in the other three.
            Check.same("beside, " + side, p.parts(0, MIDDLE + side), 250000 + 125000 / 8);
            Check.same("the middle, " + side, p.parts(0, MIDDLE), 62500 + 500000 / 8 + 3 * (125000 / 8));
            BergPatrol q = Seas.with(MIDDLE);
            for (int k = -1; k <= 3; k++) {
                q.water(MIDDLE + k * side, across, up, 1);
            }
            q.step(1);
            Check.same("once, though it goes on there, " + side, q.parts(0, MIDDLE + side), 500000);
            Check.same("no further, " + side, q.parts(0, MIDDLE + 3 * side), 0);
        }
    }

    /** From each square by each current: where it comes to, or that it is out. */
    private static void driftsByItsCurrent() {
        Check.about("Terms 1: to that which lies by its CURRENT from it; outside of the sea they are OUT");
        for (int s = 0; s < Seas.SQUARES; s++) {
            for (int c = 0; c < 25; c++) {
                int across = c % 5 - 2;
                int up = c / 5 - 2;
                String told = s + " by " + across + " " + up;
                BergPatrol p = Seas.with(s);
                p.water(s, across, up, 1);
                p.step(1);
                if (Seas.isIn(s % 20 + across, s / 20 + up)) {
                    int to = s + across + 20 * up;
                    Check.same("from " + told, p.parts(0, to), Seas.ALL - 125000 * Seas.sides(to));
                    Check.same("not out of " + told, p.berg(0, 5), 0);
                } else {
                    Check.same("out of " + told, p.berg(0, 5), Seas.ALL);
                    Check.same("gone out of " + told, p.berg(0, 2), 1);
                }
            }
        }
    }

    private static void stopsAtLand() {
        Check.about("Terms 1: if that is LAND they stay where they are");
        for (int c = 0; c < 25; c++) {
            int across = c % 5 - 2;
            int up = c / 5 - 2;
            if (across == 0 && up == 0) {
                continue;
            }
            BergPatrol p = Seas.with(MIDDLE);
            p.water(MIDDLE, across, up, 1);
            p.land(MIDDLE + across + 20 * up, true);
            p.step(1);
            int open = Math.abs(across) + Math.abs(up) == 1 ? 3 : 4;
            Check.same("by " + across + " " + up, p.parts(0, MIDDLE), Seas.ALL - open * 125000);
            Check.same("none is out by " + across + " " + up, p.berg(0, 5), 0);
            Check.same("all by " + across + " " + up, p.berg(0, 4), Seas.ALL);
        }
        BergPatrol p = Seas.with(MIDDLE);
        p.step(1);
        p.land(MIDDLE + 2, true);
        p.water(MIDDLE, 2, 0, 1);
        p.water(MIDDLE - 1, 1, 0, 1);
        p.step(1);
        // 625000 are in the middle ahead of the spread: those that stayed, and those that came.
        Check.same("others come to those that stay", p.parts(0, MIDDLE), 625000 - 4 * 78125 + 3 * 15625);
    }

    private static void goesOverLand() {
        Check.about("Terms 1: LAND between does not hold what drifts by two");
        int[][] over = {{2, 0}, {-2, 0}, {0, 2}, {0, -2}, {2, 2}, {-2, -2}, {2, -2}, {-2, 2}};
        for (int[] o : over) {
            BergPatrol p = Seas.with(MIDDLE);
            p.water(MIDDLE, o[0], o[1], 1);
            p.land(MIDDLE + o[0] / 2 + 20 * (o[1] / 2), true);
            p.step(1);
            int beside = o[0] == 0 || o[1] == 0 ? 3 : 4;
            Check.same("over land by " + o[0] + " " + o[1], p.parts(0, MIDDLE + o[0] + 20 * o[1]), Seas.ALL - beside * 125000);
        }
    }

    private static void notAroundTheEdge() {
        Check.about("Terms 1: outside of the sea is no SQUARE at its other end");
        int[][] edges = {{39, 1, 0, 40}, {40, -1, 0, 39}, {38, 2, 0, 40}, {41, -2, 0, 39}, {5, 0, -1, 265}, {265, 0, 1, 5}};
        for (int[] e : edges) {
            BergPatrol p = Seas.with(e[0]);
            p.water(e[0], e[1], e[2], 1);
            p.step(1);
            Check.same("parts of " + e[3], p.parts(0, e[3]), 0);
            Check.same("all are out of " + e[0], p.berg(0, 5), Seas.ALL);
        }
    }

    private static void spreadsAllAtOnce() {
        Check.about("Terms 1: (b) SPREAD, all at once");
        BergPatrol p = Seas.with(MIDDLE);
        p.step(1);
        Check.same("squares behind one step", p.berg(0, 3), 5);
        p.step(1);
        Check.same("squares behind two", p.berg(0, 3), 13);
        Check.same("the middle", p.parts(0, MIDDLE), 250000 + 4 * 15625);
        for (int side : SIDES) {
            Check.same("beside by " + side, p.parts(0, MIDDLE + side), 62500 + 62500);
            Check.same("two beside by " + side, p.parts(0, MIDDLE + 2 * side), 15625);
        }
        int[] slants = {21, 19, -21, -19};
        for (int slant : slants) {
            Check.same("slantwise by " + slant, p.parts(0, MIDDLE + slant), 2 * 15625);
        }
    }

    private static void eighths() {
        Check.about("Terms 1: an eighth, rounded down");
        int[] parts = {1, 7, 8, 9, 15, 16, 17, 23, 24, 99, 100};
        for (int n : parts) {
            BergPatrol p = Seas.with(MIDDLE);
            Seas.leave(p, MIDDLE, n);
            p.step(1);
            for (int side : SIDES) {
                Check.same("of " + n + " to " + side, p.parts(0, MIDDLE + side), n / 8);
            }
        }
    }

    private static void besideInTheSea() {
        Check.about("Terms 1: to each of the four beside it that is in the sea");
        for (int s = 0; s < Seas.SQUARES; s++) {
            BergPatrol p = Seas.with(s);
            p.step(1);
            Check.same("squares around " + s, p.berg(0, 3), 1 + Seas.sides(s));
            Check.same("parts of " + s, p.parts(0, s), Seas.ALL - 125000 * Seas.sides(s));
            Check.same("none is out of " + s, p.berg(0, 5), 0);
            for (int side : SIDES) {
                boolean isIn = Seas.isIn(s % 20 + side % 20, s / 20 + side / 20);
                if (s + side >= 0 && s + side < Seas.SQUARES) {
                    Check.same("beside " + s + " by " + side, p.parts(0, s + side), isIn ? 125000 : 0);
                }
            }
        }
    }

    private static void besideNoLand() {
        Check.about("Terms 1: to each of the four beside it that is no LAND");
        for (int mask = 0; mask < 16; mask++) {
            BergPatrol p = Seas.with(MIDDLE);
            for (int k = 0; k < 4; k++) {
                p.land(MIDDLE + SIDES[k], (mask >> k & 1) != 0);
            }
            p.step(1);
            Check.same("the middle, land " + mask, p.parts(0, MIDDLE), Seas.ALL - 125000 * (4 - Integer.bitCount(mask)));
            for (int k = 0; k < 4; k++) {
                Check.same("side " + k + ", land " + mask, p.parts(0, MIDDLE + SIDES[k]), (mask >> k & 1) != 0 ? 0 : 125000);
            }
        }
    }

    private static void notSlantwise() {
        Check.about("Terms 1: (not slantwise)");
        BergPatrol p = Seas.with(MIDDLE);
        p.step(1);
        int[] slants = {21, 19, -21, -19};
        for (int slant : slants) {
            Check.same("slantwise by " + slant, p.parts(0, MIDDLE + slant), 0);
        }
    }

    private static void theRestStays() {
        Check.about("Terms 1: the rest stays");
        int[] parts = {1, 7, 8, 15, 16, 100};
        for (int n : parts) {
            BergPatrol p = Seas.with(MIDDLE);
            Seas.leave(p, MIDDLE, n);
            p.step(1);
            Check.same("of " + n, p.parts(0, MIDDLE), n - 4 * (n / 8));
            Check.same("all of " + n, p.berg(0, 4), n);
        }
    }

    private static void leastWarmth() {
        Check.about("Terms 1: (c) SIZE is less by the least WARMTH of all SQUARES where it MAY BE");
        int[] cross = {0, 1, -1, 20, -20};
        for (int cold : cross) {
            BergPatrol p = new BergPatrol();
            Seas.warmAll(p, 20);
            p.water(MIDDLE + cold, 0, 0, 3);
            p.tell(MIDDLE, 100);
            p.step(1);
            Check.same("the cold one lies by " + cold, p.berg(0, 0), 97);
        }
        BergPatrol p = new BergPatrol();
        Seas.warmAll(p, 20);
        p.water(MIDDLE + 2, 0, 0, 3);
        p.tell(MIDDLE, 100);
        p.step(1);
        Check.same("where it is not yet", p.berg(0, 0), 80);
        p.step(1);
        Check.same("where it is then", p.berg(0, 0), 77);
        BergPatrol q = new BergPatrol();
        Seas.warmAll(q, 20);
        q.water(MIDDLE, 2, 2, 3);
        q.tell(MIDDLE, 100);
        q.step(1);
        Check.same("where it was, and no longer is", q.berg(0, 0), 80);
        q.water(0, 0, 0, 0);
        q.step(1);
        Check.same("where it is not", q.berg(0, 0), 60);
    }

    private static void leastWarmthOfOnePart() {
        Check.about("Terms 1: where it MAY BE, if that is above 0: one part counts, none does not");
        for (int n = 7; n <= 8; n++) {
            BergPatrol p = new BergPatrol();
            Seas.warmAll(p, 20);
            p.water(MIDDLE + 1, 0, 0, 3);
            p.tell(MIDDLE, 100);
            Seas.leave(p, MIDDLE, n);
            p.step(1);
            Check.same("parts beside, of " + n, p.parts(0, MIDDLE + 1), n / 8);
            Check.same("size by " + n, p.berg(0, 0), n == 8 ? 97 : 80);
        }
        BergPatrol p = new BergPatrol();
        Seas.warmAll(p, 0);
        p.tell(MIDDLE, 1);
        p.step(50);
        Check.same("warmth 0 melts nothing", p.berg(0, 0), 1);
        Check.same("nor is it gone", p.berg(0, 2), 0);
    }

    private static void atZeroOrBelow() {
        Check.about("Terms 1: at 0 or below it is GONE");
        int[] sizes = {1, 49, 50, 51, 100};
        for (int size : sizes) {
            BergPatrol p = new BergPatrol();
            Seas.warmAll(p, 50);
            p.tell(MIDDLE, size);
            p.step(1);
            Check.same("size " + size, p.berg(0, 0), size - 50);
            Check.same("gone of " + size, p.berg(0, 2), size <= 50 ? 1 : 0);
            Check.same("left of " + size, p.count(2), size <= 50 ? 0 : 1);
        }
    }

    private static void nowhere() {
        Check.about("Terms 1: or if it MAY BE nowhere, it is GONE");
        BergPatrol p = Seas.with(19);
        p.water(19, 1, 0, 50);
        p.step(1);
        Check.same("gone", p.berg(0, 2), 1);
        Check.same("its size is as it was, since no warmth was met", p.berg(0, 0), 100);
        Check.same("out", p.berg(0, 5), Seas.ALL);
        Check.same("squares", p.berg(0, 3), 0);
        BergPatrol q = Seas.with(19);
        Seas.leave(q, 19, 1);
        q.water(19, 1, 0, 1);
        q.step(1);
        Check.same("gone with its last part", q.berg(0, 2), 1);
        Check.same("one is out", q.berg(0, 5), 1);
        BergPatrol r = Seas.with(19);
        r.step(1);
        r.water(19, 1, 0, 1);
        r.step(1);
        Check.same("not gone while some are left", r.berg(0, 2), 0);
        Check.same("some are out", r.berg(0, 5), 750000);
    }

    private static void partsAreAway() {
        Check.about("Terms 1: it is GONE: its PARTS are away");
        BergPatrol p = new BergPatrol();
        p.tell(MIDDLE, 2);
        p.step(2);
        for (int s = 0; s < Seas.SQUARES; s++) {
            Check.same("parts of " + s, p.parts(0, s), 0);
        }
        Check.same("squares", p.berg(0, 3), 0);
        Check.same("all", p.berg(0, 4), 0);
        Check.same("none is out by that", p.berg(0, 5), 0);
        Check.same("squares of all", p.count(5), 0);
        Check.same("limit", p.limit(), 0);
        Check.same("flight", p.flight(), 0);
        Check.same("look", p.look(MIDDLE, 100), 0);
    }

    private static void ageIsOneMore() {
        Check.about("Terms 1: (d) AGE is one more");
        BergPatrol p = new BergPatrol();
        p.tell(MIDDLE, 3);
        for (int age = 1; age <= 3; age++) {
            p.step(1);
            Check.same("age", p.berg(0, 1), age);
        }
        Check.same("melted in the last one", p.berg(0, 2), 1);
        p.step(1);
        Check.same("no older when it is gone", p.berg(0, 1), 3);
    }
}
