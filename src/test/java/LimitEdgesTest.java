import java.util.ArrayList;
import java.util.List;
import java.util.TreeSet;
import java.util.function.Supplier;

/** The edges of THE LIMIT (Terms 3), of FLIGHTS (Terms 4) and of promises 11 limit, 12 corner, 21 flight: a test for each sentence. */
public final class LimitEdgesTest {
    private static final int MIDDLE = 150;

    public static void main(String[] args) {
        everySquareCounts();
        onePartCounts();
        someBerg();
        withinOrOnIt();
        ofTheseAlone();
        noneOnALine();
        toldFrom();
        roundLeft();
        noCorners();
        manyCorners();
        noSuchCorner();
        xOrY();
        oneOfEachX();
        apartByOne();
        allPartsOfAllBergs();
        overLand();
        seesNothing();
        Check.end();
    }

    private static void everySquareCounts() {
        Check.about("Terms 3: of all corners of all SQUARES where some BERG MAY BE");
        for (int s = 0; s < Seas.SQUARES; s++) {
            int x = s % 20;
            int y = s / 20;
            String due = x + " " + y + "," + (x + 1) + " " + y + "," + (x + 1) + " " + (y + 1) + "," + x + " " + (y + 1);
            Check.same("limit of " + s, Seas.limit(Seas.with(s)), due);
        }
        Check.same("the ends of the sea", Seas.limit(Seas.with(0, 19, 260, 279)), "0 0,20 0,20 14,0 14");
    }

    private static void onePartCounts() {
        Check.about("Terms 3: where some BERG MAY BE: one part is enough, none is not");
        for (int n = 7; n <= 8; n++) {
            BergPatrol p = Seas.with(MIDDLE);
            Seas.leave(p, MIDDLE, n);
            p.step(1);
            Check.same("corners by " + n, p.limit(), n == 8 ? 8 : 4);
        }
    }

    private static void someBerg() {
        Check.about("Terms 3: where some BERG MAY BE: of one, of all, of those that are not GONE");
        BergPatrol ten = Seas.with(0, 19, 260, 279, 21, 41, 61, 81, 101, 121);
        Check.same("ten", Seas.limit(ten), "0 0,20 0,20 14,0 14");
        int[] ends = {0, 19, 260, 279};
        for (int s : ends) {
            ten.look(s, 100);
        }
        Check.same("those left", Seas.limit(ten), "1 1,2 1,2 7,1 7");
        Check.same("two in one square", Seas.limit(Seas.with(5, 5)), "5 0,6 0,6 1,5 1");
    }

    /** A limit, and the corners of all squares that it is of. A corner is told as x + 100 y. */
    private static final class Shape {
        final String told;
        final int[] ring;
        final TreeSet<Integer> corners = new TreeSet<>();

        /** Each berg is asked for in an object of its own, so that none is used for more calls than the document allows. */
        Shape(Supplier<BergPatrol> maker) {
            told = Seas.limit(maker.get());
            String[] pairs = told.split(",");
            ring = new int[pairs.length];
            for (int k = 0; k < ring.length; k++) {
                String[] xy = pairs[k].split(" ");
                ring[k] = Integer.parseInt(xy[0]) + 100 * Integer.parseInt(xy[1]);
            }
            int bergs = maker.get().count(1);
            for (int b = 0; b < bergs; b++) {
                addCorners(maker.get(), b);
            }
        }

        private void addCorners(BergPatrol p, int berg) {
            for (int s = 0; s < Seas.SQUARES; s++) {
                if (p.parts(berg, s) > 0) {
                    int corner = s % 20 + 100 * (s / 20);
                    corners.addAll(List.of(corner, corner + 1, corner + 100, corner + 101));
                }
            }
        }

        int at(int k) {
            return ring[k % ring.length];
        }
    }

    private static List<Shape> shapes() {
        List<Shape> all = new ArrayList<>();
        all.add(new Shape(LimitEdgesTest::spread));
        all.add(new Shape(LimitEdgesTest::bitten));
        all.add(new Shape(LimitEdgesTest::atTheEnds));
        all.add(new Shape(LimitEdgesTest::round));
        int[][] squares = {{0}, {279}, {0, 279}, {19, 260}, {0, 21, 42}, {40, 21, 2}, {3, 22, 41, 60}, {0, 41, 82, 123},
            {5, 44, 83, 122}, {0, 1, 2, 3, 22, 43}, {105, 106, 125, 126}};
        for (int[] s : squares) {
            all.add(new Shape(() -> Seas.with(s)));
        }
        return all;
    }

    private static BergPatrol spread() {
        BergPatrol p = Seas.with(MIDDLE);
        p.step(4);
        return p;
    }

    private static BergPatrol bitten() {
        BergPatrol p = Seas.with(MIDDLE, 9);
        p.step(3);
        for (int s = 140; s < 150; s++) {
            p.look(s, 100);
        }
        return p;
    }

    private static BergPatrol atTheEnds() {
        BergPatrol p = Seas.with(279, 0, 19);
        p.step(5);
        return p;
    }

    /** A berg that may be everywhere, looked for in vain outside of a round. */
    private static BergPatrol round() {
        BergPatrol p = Seas.with(MIDDLE);
        p.step(20);
        for (int s = 0; s < Seas.SQUARES; s++) {
            int x = 2 * (s % 20) - 19;
            int y = 2 * (s / 20) - 13;
            if (x * x + y * y > 190) {
                p.look(s, 100);
            }
        }
        return p;
    }

    /** Above 0 if c lies on the left hand of the way from a to b, 0 if on its line. */
    private static int left(int a, int b, int c) {
        return (b % 100 - a % 100) * (c / 100 - a / 100) - (b / 100 - a / 100) * (c % 100 - a % 100);
    }

    private static void withinOrOnIt() {
        Check.about("Terms 3: the convex one that has all of them within or on it");
        for (Shape shape : shapes()) {
            for (int k = 0; k < shape.ring.length; k++) {
                for (int corner : shape.corners) {
                    Check.same("within " + shape.told, left(shape.at(k), shape.at(k + 1), corner) >= 0, true);
                }
            }
        }
    }

    private static void ofTheseAlone() {
        Check.about("Terms 3: with corners of these alone");
        for (Shape shape : shapes()) {
            for (int corner : shape.ring) {
                Check.same("a corner of a square, in " + shape.told, shape.corners.contains(corner), true);
            }
        }
    }

    private static void noneOnALine() {
        Check.about("Terms 3: none of which lies on a line between two others");
        for (Shape shape : shapes()) {
            for (int k = 0; k < shape.ring.length; k++) {
                Check.same("a turn in " + shape.told, left(shape.at(k), shape.at(k + 1), shape.at(k + 2)) > 0, true);
            }
        }
        Check.same("a row", Seas.limit(Seas.with(5, 6, 7)), "5 0,8 0,8 1,5 1");
        Check.same("a pile", Seas.limit(Seas.with(5, 25, 45)), "5 0,6 0,6 3,5 3");
        Check.same("slantwise up", Seas.limit(Seas.with(0, 21, 42)), "0 0,1 0,3 2,3 3,2 3,0 1");
        Check.same("slantwise down", Seas.limit(Seas.with(40, 21, 2)), "0 2,2 0,3 0,3 1,1 3,0 3");
        Check.same("two across, one up", Seas.limit(Seas.with(0, 22, 44)), "0 0,1 0,5 2,5 3,4 3,0 1");
    }

    private static void toldFrom() {
        Check.about("Terms 3: told from the one of the least x, of several of the least y, on");
        for (Shape shape : shapes()) {
            int first = shape.at(0);
            for (int corner : shape.corners) {
                boolean isLess = corner % 100 < first % 100 || corner % 100 == first % 100 && corner < first;
                Check.same("before the first one in " + shape.told, isLess, false);
            }
        }
        Check.same("the least x is high up", Seas.limit(Seas.with(260, 19)), "0 13,19 0,20 0,20 1,1 14,0 14");
        Check.same("of several", Seas.limit(Seas.with(100, 40)), "0 2,1 2,1 6,0 6");
    }

    private static void roundLeft() {
        Check.about("Terms 3: round so that all others lie on the left hand of the way from each to the next one");
        for (Shape shape : shapes()) {
            for (int k = 0; k < shape.ring.length; k++) {
                for (int other = k + 2; other < k + shape.ring.length; other++) {
                    Check.same("left in " + shape.told, left(shape.at(k), shape.at(k + 1), shape.at(other)) > 0, true);
                }
            }
        }
    }

    private static void noCorners() {
        Check.about("Terms 3: No corners, if no BERG MAY BE anywhere");
        BergPatrol p = new BergPatrol();
        Check.same("without bergs", p.limit(), 0);
        Check.same("corner 0", p.corner(0, false), BergPatrol.NONE);
        p.tell(MIDDLE, 1);
        Check.same("with one", p.limit(), 4);
        p.step(1);
        Check.same("that melted", p.limit(), 0);
        Check.same("corner 0", p.corner(0, true), BergPatrol.NONE);
        Check.same("corner 3, which was one", p.corner(3, true), BergPatrol.NONE);
    }

    private static void manyCorners() {
        Check.about("Promise 11: How many corners the LIMIT has");
        BergPatrol p = round();
        Check.same("of a round", p.limit(), 16);
        Check.same("the round's", Seas.limit(p),
            "3 5,4 3,6 1,8 0,12 0,14 1,16 3,17 5,17 9,16 11,14 13,12 14,8 14,6 13,4 11,3 9");
        Check.same("of one square", Seas.with(MIDDLE).limit(), 4);
        Check.same("of two slantwise", Seas.with(0, 21).limit(), 6);
    }

    private static void noSuchCorner() {
        Check.about("Promise 12: NONE if there is none such");
        BergPatrol[] some = {spread(), bitten(), atTheEnds(), round(), Seas.with(0)};
        for (BergPatrol p : some) {
            int[] none = {-1, p.limit(), p.limit() + 1, Integer.MIN_VALUE, Integer.MAX_VALUE};
            for (int k : none) {
                Check.same("x of corner " + k, p.corner(k, false), BergPatrol.NONE);
                Check.same("y of corner " + k, p.corner(k, true), BergPatrol.NONE);
            }
            Check.same("the last one", p.corner(p.limit() - 1, false) != BergPatrol.NONE, true);
            Check.same("the first one", p.corner(0, true) != BergPatrol.NONE, true);
        }
    }

    private static void xOrY() {
        Check.about("Promise 12: x (y false) or y of corner k of the LIMIT");
        BergPatrol p = Seas.with(279);
        Check.same("x of 2", p.corner(2, false), 20);
        Check.same("y of 2", p.corner(2, true), 14);
        Check.same("x of 0", p.corner(0, false), 19);
        Check.same("y of 0", p.corner(0, true), 13);
        p.look(279, 100);
        p.tell(0, 5);
        Check.same("of the limit as it is now", p.corner(2, false), 1);
    }

    private static void oneOfEachX() {
        Check.about("Terms 4: 20 SQUARES, one of each x from 0 to 19");
        for (int s = 0; s < Seas.SQUARES; s++) {
            Check.same("over " + s, Seas.with(s).flight(), Seas.ALL);
            int above = s + 20 < Seas.SQUARES ? s + 20 : s - 20;
            Check.same("not over two of one x, " + s, Seas.with(s, above).flight(), Seas.ALL);
        }
        BergPatrol ends = Seas.with(0, 19);
        Check.same("the first and the last x", ends.flight(), 2 * Seas.ALL);
    }

    private static void apartByOne() {
        Check.about("Terms 4: y from one to the next apart by 1 at most");
        for (int across = 1; across <= 13; across++) {
            for (int up = 0; up <= 13; up++) {
                long due = up <= across ? 2 * Seas.ALL : Seas.ALL;
                Check.same("up " + up + " in " + across, Seas.with(3, 3 + across + 20 * up).flight(), due);
                Check.same("down " + up + " in " + across, Seas.with(3 + 20 * up, 3 + across).flight(), due);
            }
        }
        Check.same("a zigzag at the lowest", Seas.with(0, 21, 2, 23, 4).flight(), 5 * Seas.ALL);
        Check.same("a zigzag at the highest", Seas.with(260, 241, 262, 243, 264).flight(), 5 * Seas.ALL);
        Check.same("no way below the lowest", Seas.with(0, 261).flight(), Seas.ALL);
    }

    private static void allPartsOfAllBergs() {
        Check.about("Terms 4: it sees all PARTS of all BERGS there");
        BergPatrol p = new BergPatrol();
        for (int b = 0; b < 10; b++) {
            p.tell(MIDDLE, 10 + b);
        }
        Check.same("ten in one square", p.flight(), 10 * Seas.ALL);
        p.step(1);
        Check.same("those in a row", p.flight(), 10 * 750000);
        p.look(MIDDLE, 100);
        Check.same("without the middle", p.flight(), 10 * 375000);
        BergPatrol q = Seas.with(MIDDLE);
        Seas.leave(q, MIDDLE, 1);
        Check.same("a single part", q.flight(), 1);
    }

    private static void overLand() {
        Check.about("Terms 4: FLIGHTS go over LAND and WARNINGS, too");
        BergPatrol p = Seas.with(0, 19);
        for (int y = 0; y < 14; y++) {
            p.land(20 * y + 10, true);
        }
        p.warn();
        Check.same("over land", p.flight(), 2 * Seas.ALL);
    }

    private static void seesNothing() {
        Check.about("Promise 21: The most that a FLIGHT sees (0 without BERGS)");
        BergPatrol p = new BergPatrol();
        Check.same("without bergs", p.flight(), 0);
        p.tell(0, 5);
        p.look(0, 100);
        Check.same("with one that is gone", p.flight(), 0);
        BergPatrol q = Seas.with(0, 260);
        q.look(0, 1);
        Check.same("the one that has more", q.flight(), Seas.ALL);
        q.look(260, 2);
        Check.same("now the other one", q.flight(), 990000);
    }
}
