/** Promises 11 limit, 12 corner, 21 flight. */
public final class LimitTest {
    public static void main(String[] args) {
        oneSquare();
        twoSquares();
        noCornersOnLines();
        cornersOfTheSea();
        afterASpread();
        withoutBergs();
        flights();
        flightsOverLand();
        Check.end();
    }

    private static void oneSquare() {
        Check.same("a corner before the limit was asked for", Seas.with(105).corner(2, true), 6);
        BergPatrol p = Seas.with(105);
        Check.same("limit of one square", Seas.limit(p), "5 5,6 5,6 6,5 6");
        Check.same("corner -1", p.corner(-1, false), BergPatrol.NONE);
        Check.same("corner 4", p.corner(4, false), BergPatrol.NONE);
        Check.same("corner 4, y", p.corner(4, true), BergPatrol.NONE);
        Check.same("corner most", p.corner(Integer.MAX_VALUE, true), BergPatrol.NONE);
        Check.same("corner least", p.corner(Integer.MIN_VALUE, true), BergPatrol.NONE);
    }

    private static void twoSquares() {
        Check.same("beside", Seas.limit(Seas.with(105, 106)), "5 5,7 5,7 6,5 6");
        Check.same("above", Seas.limit(Seas.with(105, 125)), "5 5,6 5,6 7,5 7");
        Check.same("slantwise up", Seas.limit(Seas.with(105, 126)), "5 5,6 5,7 6,7 7,6 7,5 6");
        Check.same("slantwise down", Seas.limit(Seas.with(105, 86)), "5 5,6 4,7 4,7 5,6 6,5 6");
        Check.same("the same", Seas.limit(Seas.with(105, 105)), "5 5,6 5,6 6,5 6");
        Check.same("far apart", Seas.limit(Seas.with(0, 279)), "0 0,1 0,20 13,20 14,19 14,0 1");
    }

    private static void noCornersOnLines() {
        Check.same("a slant row", Seas.limit(Seas.with(42, 63, 84)), "2 2,3 2,5 4,5 5,4 5,2 3");
        Check.same("within a square", Seas.limit(Seas.with(0, 4, 80, 84, 42)), "0 0,5 0,5 5,0 5");
        Check.same("a lying T", Seas.limit(Seas.with(2, 22, 42, 23)), "2 0,3 0,4 1,4 2,3 3,2 3");
    }

    private static void cornersOfTheSea() {
        Check.same("all the sea", Seas.limit(Seas.with(0, 19, 260, 279)), "0 0,20 0,20 14,0 14");
        Check.same("the upper right end", Seas.limit(Seas.with(279)), "19 13,20 13,20 14,19 14");
    }

    private static void afterASpread() {
        BergPatrol p = Seas.with(105);
        p.step(1);
        Check.same("a cross", Seas.limit(p), "4 5,5 4,6 4,7 5,7 6,6 7,5 7,4 6");
        p.look(104, 100);
        Check.same("without its left arm", Seas.limit(p), "5 4,6 4,7 5,7 6,6 7,5 7");
        Check.same("limit", p.limit(), 6);
    }

    private static void withoutBergs() {
        BergPatrol p = Seas.with(105, 42);
        p.look(105, 100);
        Check.same("of those left", Seas.limit(p), "2 2,3 2,3 3,2 3");
        p.look(42, 100);
        Check.same("none left", p.limit(), 0);
        Check.same("corner 0", p.corner(0, false), BergPatrol.NONE);
        Check.same("corner 0, y", p.corner(0, true), BergPatrol.NONE);
        Check.same("flight over none", p.flight(), 0);
    }

    private static void flights() {
        BergPatrol p = Seas.with(0, 21);
        Check.same("up by one", p.flight(), 2000000);
        p.tell(43, 50);
        Check.same("and by one more, over three", p.flight(), 3000000);
        p.look(21, 100);
        Check.same("without the middle one", p.flight(), 2000000);
        BergPatrol q = Seas.with(0, 41);
        Check.same("up by two is too much", q.flight(), 1000000);
        q.look(0, 50);
        Check.same("the one that has more", q.flight(), 1000000);
        BergPatrol r = Seas.with(260, 241, 222, 20 * 5 + 19, 20 * 4 + 19);
        Check.same("down, and one of the last two", r.flight(), 4000000);
        for (int s = 0; s < 280; s++) {
            Check.same("over " + s, Seas.with(s).flight(), 1000000);
            int x = s % 20;
            int y = s / 20;
            Check.same("limit at " + s, Seas.limit(Seas.with(s)), x + " " + y + "," + (x + 1) + " " + y + ","
                + (x + 1) + " " + (y + 1) + "," + x + " " + (y + 1));
        }
        BergPatrol ten = Seas.with(0, 1, 2, 3, 4, 5, 6, 7, 8, 9);
        Check.same("ten of ten", ten.flight(), 10000000);
        Check.same("three of one x", Seas.with(200, 180, 160).flight(), 1000000);
        BergPatrol far = Seas.with(0, 19 + 20 * 13);
        Check.same("from the lowest to the highest", far.flight(), 2000000);
        Check.same("a wall's height too far", Seas.with(20 * 13 + 1, 12 + 20).flight(), 1000000);
        Check.same("just near enough", Seas.with(20 * 13 + 1, 13 + 20).flight(), 2000000);
    }

    private static void flightsOverLand() {
        BergPatrol p = new BergPatrol();
        for (int y = 0; y < 14; y++) {
            p.land(20 * y + 10, true);
        }
        p.tell(9, 10);
        p.tell(11, 10);
        Check.same("a flight goes over land", p.flight(), 2000000);
    }
}
