/** The edges that Terms 1 names of the sea, and those of promises 1 a new object, 4 water, 5 land: a test for each sentence. */
public final class SeaEdgesTest {
    private static final int MIDDLE = 150;

    public static void main(String[] args) {
        numbers();
        noSuchSquare();
        landAtFirst();
        currents();
        currentAtFirst();
        warmths();
        warmthAtFirst();
        nowAtFirst();
        newObject();
        waterOfNoSquare();
        waterNone();
        waterAgain();
        landOrNot();
        landWhereABergMayBe();
        landWhereNoneMayBe();
        Check.end();
    }

    private static void numbers() {
        Check.about("Terms 1: SQUARES x 0 to 19, y 0 to 13; number 20 y + x");
        int[][] ends = {{0, 0, 0}, {19, 19, 0}, {20, 0, 1}, {259, 19, 12}, {260, 0, 13}, {279, 19, 13}};
        for (int[] e : ends) {
            BergPatrol p = Seas.with(e[0]);
            Check.same("x of " + e[0], p.corner(0, false), e[1]);
            Check.same("y of " + e[0], p.corner(0, true), e[2]);
        }
    }

    private static void noSuchSquare() {
        Check.about("IndexOutOfBoundsException: there is no such SQUARE");
        BergPatrol p = Seas.with(0);
        for (int s : Seas.NO_SQUARES) {
            Check.noIndex("water " + s, () -> p.water(s, 0, 0, 1));
            Check.noIndex("land " + s, () -> p.land(s, true));
            Check.noIndex("no land " + s, () -> p.land(s, false));
            Check.noIndex("tell " + s, () -> p.tell(s, 5));
            Check.noIndex("look " + s, () -> p.look(s, 5));
            Check.noIndex("parts " + s, () -> p.parts(0, s));
            Check.noIndex("way from " + s, () -> p.way(s, 0, 0));
            Check.noIndex("way to " + s, () -> p.way(0, s, 0));
            Check.noIndex("way from and to " + s, () -> p.way(s, s, 0));
        }
        int[] ends = {0, 279};
        for (int s : ends) {
            p.water(s, 0, 0, 1);
            p.land(s, false);
            Check.same("look " + s, p.look(s, 0), 0);
            Check.same("way " + s, p.way(s, s, 0), 0);
            Check.same("parts " + s, p.parts(0, s), s == 0 ? Seas.ALL : 0);
            Check.same("tell " + s, p.tell(s, 5), s == 0 ? 0 : 1);
        }
    }

    private static void landAtFirst() {
        Check.about("Terms 1: A SQUARE is LAND or not (not, at first)");
        Check.same("land at first", Seas.shut(new BergPatrol(), 0), "");
    }

    private static void currents() {
        Check.about("Terms 1: a CURRENT (a, d), each - 2 to 2");
        for (int a = -3; a <= 3; a++) {
            for (int d = -3; d <= 3; d++) {
                BergPatrol p = Seas.with(MIDDLE);
                int across = a;
                int up = d;
                if (Math.abs(a) > 2 || Math.abs(d) > 2) {
                    Check.noArgument("current " + a + " " + d, () -> p.water(MIDDLE, across, up, 1));
                    continue;
                }
                p.water(MIDDLE, a, d, 1);
                p.step(1);
                Check.same("by current " + a + " " + d, p.parts(0, MIDDLE + a + 20 * d), 500000);
            }
        }
    }

    private static void currentAtFirst() {
        Check.about("Terms 1: (0, 0 at first)");
        for (int s = 0; s < Seas.SQUARES; s++) {
            BergPatrol p = Seas.with(s);
            p.step(1);
            Check.same("it stays at " + s, p.parts(0, s), Seas.ALL - 125000 * Seas.sides(s));
        }
    }

    private static void warmths() {
        Check.about("Terms 1: WARMTH (0 to 50)");
        for (int w = 0; w <= 50; w++) {
            BergPatrol p = new BergPatrol();
            Seas.warmAll(p, w);
            p.tell(MIDDLE, 1000);
            p.step(1);
            Check.same("by warmth " + w, p.berg(0, 0), 1000 - w);
        }
        int[] none = {-1, 51, Integer.MIN_VALUE, Integer.MAX_VALUE};
        for (int w : none) {
            Check.noArgument("warmth " + w, () -> new BergPatrol().water(MIDDLE, 0, 0, w));
        }
    }

    private static void warmthAtFirst() {
        Check.about("Terms 1: WARMTH (1 at first)");
        for (int s = 0; s < Seas.SQUARES; s++) {
            BergPatrol p = new BergPatrol();
            for (int t = 0; t < Seas.SQUARES; t++) {
                if (t != s) {
                    p.water(t, 0, 0, 50);
                }
            }
            p.tell(s, 1000);
            p.step(1);
            Check.same("by the warmth of " + s, p.berg(0, 0), 999);
        }
    }

    private static void nowAtFirst() {
        Check.about("Terms 1: NOW is a step, 0 at first");
        Check.same("now", new BergPatrol().count(0), 0);
        Check.same("no step", new BergPatrol().step(0), 0);
    }

    private static void newObject() {
        Check.about("Promise 1: A sea without LAND, BERGS, WARNINGS");
        BergPatrol p = new BergPatrol();
        for (int what = 0; what <= 7; what++) {
            Check.same("count " + what, p.count(what), 0);
        }
        Check.same("land", Seas.shut(p, 0), "");
        Check.noIndex("berg 0", () -> p.berg(0, 0));
        Check.noIndex("parts of berg 0", () -> p.parts(0, 0));
        Check.noIndex("cancel 0", () -> p.cancel(0));
        Check.noIndex("force 0", () -> p.force(0, 0));
        Check.noIndex("write 0", () -> p.write(0));
        Check.same("limit", p.limit(), 0);
        Check.same("corner", p.corner(0, true), BergPatrol.NONE);
        Check.same("flight", p.flight(), 0);
        Check.same("fault", p.fault(), BergPatrol.NONE);
        Check.same("tape", p.taped(0), BergPatrol.NONE);
    }

    private static void waterOfNoSquare() {
        Check.about("Promise 4: IndexOutOfBoundsException is told ahead of IllegalArgumentException");
        for (int s : Seas.NO_SQUARES) {
            Check.noIndex("water " + s + ", wrong numbers", () -> new BergPatrol().water(s, 3, -3, 51));
        }
    }

    private static void waterNone() {
        Check.about("Promise 4: IllegalArgumentException: a number is none");
        int[][] none = {{3, 0, 0}, {-3, 0, 0}, {0, 3, 0}, {0, -3, 0}, {0, 0, -1}, {0, 0, 51}};
        for (int[] n : none) {
            BergPatrol p = Seas.with(MIDDLE);
            p.water(MIDDLE, 1, 1, 2);
            Check.noArgument("water " + n[0] + " " + n[1] + " " + n[2], () -> p.water(MIDDLE, n[0], n[1], n[2]));
            p.step(1);
            Check.same("the current stays", p.parts(0, MIDDLE + 21), 500000);
        }
        int[] edges = {-2, 2};
        for (int across : edges) {
            for (int up : edges) {
                BergPatrol p = Seas.with(MIDDLE);
                p.water(MIDDLE, across, up, 50);
                p.water(MIDDLE, across, up, 0);
                p.step(1);
                Check.same("water " + across + " " + up, p.parts(0, MIDDLE + across + 20 * up), 500000);
            }
        }
    }

    private static void waterAgain() {
        Check.about("Promise 4: CURRENT and WARMTH of a SQUARE");
        BergPatrol p = Seas.with(MIDDLE);
        p.land(0, true);
        p.water(0, 2, 2, 50);
        p.water(MIDDLE, 2, 2, 50);
        p.water(MIDDLE, -1, 0, 0);
        p.water(MIDDLE - 1, 0, 0, 0);
        p.step(1);
        Check.same("the latest current", p.parts(0, MIDDLE - 1), 500000);
        Check.same("the latest warmth", p.berg(0, 0), 100);
        Check.same("land has water, too, and stays land", p.way(0, 0, 0), BergPatrol.NONE);
    }

    private static void landOrNot() {
        Check.about("Promise 5: A SQUARE is LAND, or not");
        int[] ends = {0, 19, 260, 279};
        for (int s : ends) {
            BergPatrol p = new BergPatrol();
            p.land(s, false);
            Check.same("never was", Seas.shut(p, 0), "");
            p.land(s, true);
            p.land(s, true);
            Check.same("land, told twice", p.way(s, s, 0), BergPatrol.NONE);
            p.land(s, false);
            Check.same("no longer", p.way(s, s, 0), 0);
        }
        BergPatrol p = new BergPatrol();
        p.land(0, true);
        p.land(279, true);
        Check.same("both", Seas.shut(p, 0), "0 279");
    }

    private static void landWhereABergMayBe() {
        Check.about("Promise 5: IllegalStateException: it is to be LAND, and a BERG MAY BE there");
        BergPatrol p = Seas.with(MIDDLE);
        Check.noState("where one is", () -> p.land(MIDDLE, true));
        Check.same("no land by that", p.way(MIDDLE, MIDDLE, 0), 0);
        Seas.leave(p, MIDDLE, 8);
        Check.noState("where eight parts are", () -> p.land(MIDDLE, true));
        p.step(1);
        Check.noState("where one part is", () -> p.land(MIDDLE + 1, true));
        p.land(MIDDLE + 21, true);
        Check.same("slantwise of that there is none", p.way(MIDDLE + 21, MIDDLE + 21, 0), BergPatrol.NONE);
        BergPatrol ten = new BergPatrol();
        for (int b = 0; b < 10; b++) {
            ten.tell(20 * b, 5);
        }
        Check.noState("where the first is", () -> ten.land(0, true));
        Check.noState("where the tenth is", () -> ten.land(180, true));
    }

    private static void landWhereNoneMayBe() {
        Check.about("Promise 5: no exception, if it is not to be LAND, or no BERG MAY BE there");
        BergPatrol p = Seas.with(MIDDLE, 0);
        p.land(MIDDLE, false);
        p.look(MIDDLE, 100);
        p.land(MIDDLE, true);
        Check.same("where one was that is gone", p.way(MIDDLE, MIDDLE, 0), BergPatrol.NONE);
        p.step(50);
        p.step(50);
        Check.same("melted", p.berg(1, 2), 1);
        p.land(0, true);
        Check.same("where one was that melted", p.way(0, 0, 0), BergPatrol.NONE);
        BergPatrol q = Seas.with(MIDDLE);
        q.step(1);
        q.tell(MIDDLE + 1, 5);
        q.land(MIDDLE, true);
        Check.same("where one was that was told elsewhere", q.way(MIDDLE, MIDDLE, 0), BergPatrol.NONE);
        BergPatrol r = Seas.with(0);
        r.water(0, -1, 0, 1);
        r.step(1);
        r.land(0, true);
        Check.same("where one was that is out", r.way(0, 0, 0), BergPatrol.NONE);
    }
}
