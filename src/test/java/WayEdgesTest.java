/** The edges of WAYS (Terms 4), and of promises 20 way, 22 count: a test for each sentence. */
public final class WayEdgesTest {
    private static final int NONE = BergPatrol.NONE;

    public static void main(String[] args) {
        noSuchSquare();
        toItself();
        straightAndSlantwise();
        notAroundTheEdge();
        noLand();
        noWarning();
        theFirstAndTheLast();
        atAStep();
        allInForce();
        thereIsNone();
        shortest();
        laterButShorter();
        betweenTwoThatAreShut();
        bergsDoNotShut();
        countNow();
        countBergs();
        countNotGone();
        countWarnings();
        countInForce();
        countSquares();
        countBytes();
        countJoined();
        countAnother();
        Check.end();
    }

    private static void noSuchSquare() {
        Check.about("Promise 20: IndexOutOfBoundsException: there is no such SQUARE");
        BergPatrol p = new BergPatrol();
        for (int s : Seas.NO_SQUARES) {
            Check.noIndex("from " + s, () -> p.way(s, 5, 0));
            Check.noIndex("to " + s, () -> p.way(5, s, 0));
        }
        p.land(5, true);
        Check.noIndex("from land to none", () -> p.way(5, 280, 0));
        Check.noIndex("from none to land", () -> p.way(-1, 5, 0));
        Check.same("from the first to the last", p.way(0, 279, 0), 121);
    }

    private static void toItself() {
        Check.about("Terms 4: from a SQUARE to a SQUARE: to itself it is 0 long");
        BergPatrol p = new BergPatrol();
        Check.same("way", p.way(7, 7, 0), 0);
        p.land(7, true);
        Check.same("on land there is none", p.way(7, 7, 0), NONE);
        Tapes.read(p, "ring 0 0,1 0,1 1,0 1 end");
        Check.same("in a warning there is none", p.way(0, 0, 0), NONE);
    }

    private static void straightAndSlantwise() {
        Check.about("Terms 4: by steps to a neighbour, 5 straight, 7 slantwise");
        int[] straight = {1, -1, 20, -20};
        int[] slantwise = {21, -21, 19, -19};
        BergPatrol p = new BergPatrol();
        for (int by : straight) {
            Check.same("by " + by, p.way(150, 150 + by, 0), 5);
            Check.same("twice by " + by, p.way(150, 150 + 2 * by, 0), 10);
        }
        for (int by : slantwise) {
            Check.same("by " + by, p.way(150, 150 + by, 0), 7);
            Check.same("twice by " + by, p.way(150, 150 + 2 * by, 0), 14);
        }
        Check.same("both", p.way(150, 171 + 1, 0), 12);
    }

    private static void notAroundTheEdge() {
        Check.about("Terms 4: a neighbour is in the sea: none lies around its edge");
        BergPatrol p = new BergPatrol();
        Check.same("from the right end to the left one", p.way(19, 20, 0), 18 * 5 + 7);
        Check.same("from the left end to the right one", p.way(20, 19, 0), 18 * 5 + 7);
        Check.same("from below to above", p.way(5, 265, 0), 13 * 5);
        Check.same("from end to end", p.way(19, 260, 0), 13 * 7 + 6 * 5);
        int[] ends = {0, 19, 260, 279};
        for (int s : ends) {
            BergPatrol q = new BergPatrol();
            Seas.landAllBut(q, s, 150);
            Check.same("alone at " + s, q.way(s, 150, 0), NONE);
        }
    }

    private static void noLand() {
        Check.about("Terms 4: over SQUARES that are no LAND");
        BergPatrol p = new BergPatrol();
        for (int y = 0; y < 13; y++) {
            p.land(20 * y + 10, true);
        }
        Check.same("through the gap above", p.way(9, 11, 0), 24 * 5 + 14);
        p.land(270, true);
        Check.same("through none", p.way(9, 11, 0), NONE);
        p.land(10, false);
        Check.same("through that below", p.way(9, 11, 0), 10);
    }

    private static void noWarning() {
        Check.about("Terms 4: and in no WARNING in force");
        BergPatrol p = new BergPatrol();
        Tapes.read(p, "ring 10 1,11 1,11 14,10 14 end");
        Check.same("through the gap below", p.way(269, 271, 0), 24 * 5 + 14);
        Tapes.read(p, "ring 10 0,11 0,11 1,10 1 end");
        Check.same("through none", p.way(269, 271, 0), NONE);
        BergPatrol q = Seas.with(0, 279);
        q.warn();
        Check.same("a slant one from end to end", q.way(19, 260, 0), NONE);
        q.cancel(0);
        Check.same("when it is cancelled", q.way(19, 260, 0), 13 * 7 + 6 * 5);
    }

    private static void theFirstAndTheLast() {
        Check.about("Terms 4: (the first and the last one, too)");
        BergPatrol p = new BergPatrol();
        p.land(5, true);
        Tapes.read(p, "ring 8 0,9 0,9 1,8 1 end");
        int[] shut = {5, 8};
        for (int s : shut) {
            Check.same("from " + s, p.way(s, 100, 0), NONE);
            Check.same("to " + s, p.way(100, s, 0), NONE);
            Check.same("from " + s + " to itself", p.way(s, s, 0), NONE);
            Check.same("from " + s + " to the one beside", p.way(s, s + 1, 0), NONE);
        }
        Check.same("from one to the other", p.way(5, 8, 0), NONE);
    }

    private static void atAStep() {
        Check.about("Promise 20: by the WARNINGS in force at a step");
        BergPatrol p = new BergPatrol();
        p.step(4);
        Tapes.read(p, "ring 0 0,20 0,20 14,0 14 end");
        p.step(2);
        p.cancel(0);
        int[] open = {3, 0, -1, Integer.MIN_VALUE, 6, 7, Integer.MAX_VALUE};
        for (int step : open) {
            Check.same("at " + step, p.way(0, 1, step), 5);
        }
        Check.same("at 4", p.way(0, 1, 4), NONE);
        Check.same("at 5", p.way(0, 1, 5), NONE);
        BergPatrol q = new BergPatrol();
        Tapes.read(q, "ring 0 0,20 0,20 14,0 14 end");
        Check.same("in steps to come", q.way(0, 1, Integer.MAX_VALUE), NONE);
        Check.same("ahead of all steps", q.way(0, 1, -1), 5);
    }

    private static void allInForce() {
        Check.about("Terms 4: in no WARNING: all forty count, each by its own steps");
        BergPatrol p = new BergPatrol();
        for (int w = 0; w < 40; w++) {
            int x = w % 20;
            int y = w / 20;
            Tapes.read(p, "ring " + x + " " + y + "," + (x + 1) + " " + y + "," + (x + 1) + " " + (y + 1) + "," + x + " " + (y + 1) + " end");
        }
        for (int s = 0; s < 40; s++) {
            Check.same("square " + s, p.way(s, s, 0), NONE);
        }
        Check.same("the first one without any", p.way(40, 40, 0), 0);
        p.step(1);
        p.cancel(39);
        p.cancel(0);
        Check.same("one that is cancelled", p.way(39, 39, 1), 0);
        Check.same("the other one", p.way(0, 0, 1), 0);
        Check.same("a step ahead", p.way(39, 39, 0), NONE);
    }

    private static void thereIsNone() {
        Check.about("Promise 20: NONE if there is none");
        BergPatrol p = new BergPatrol();
        int[] around = {129, 130, 131, 149, 151, 169, 170, 171};
        for (int s : around) {
            Check.same("not yet shut in, ahead of " + s, p.way(150, 0, 0) != NONE, true);
            p.land(s, true);
        }
        Check.same("from within", p.way(150, 0, 0), NONE);
        Check.same("to within", p.way(0, 150, 0), NONE);
        Check.same("it has a way to itself", p.way(150, 150, 0), 0);
        p.land(129, false);
        Check.same("a slant gap", p.way(150, 129, 0), 7);
    }

    private static void shortest() {
        Check.about("Promise 20: The length of a shortest way");
        BergPatrol p = new BergPatrol();
        for (int to = 0; to < Seas.SQUARES; to++) {
            int across = Math.abs(to % 20 - 7);
            int up = Math.abs(to / 20 - 4);
            int due = 7 * Math.min(across, up) + 5 * Math.abs(across - up);
            Check.same("in the open sea to " + to, p.way(87, to, 0), due);
        }
        BergPatrol q = new BergPatrol();
        for (int x = 1; x < 19; x += 2) {
            for (int y = 0; y < 13; y++) {
                q.land(20 * (x % 4 == 1 ? y : 13 - y) + x, true);
            }
        }
        Check.same("through nine gaps", q.way(0, 18, 0), 60 + 9 * 14 + 8 * 55 + 60);
        Check.same("and back", q.way(18, 0, 0), 60 + 9 * 14 + 8 * 55 + 60);
    }

    /** Four slants come to the end first (28); three straight, one slant and one straight come later, but are shorter. */
    private static void laterButShorter() {
        Check.about("Promise 20: a shortest way, though a longer one was met first");
        BergPatrol p = new BergPatrol();
        Seas.landAllBut(p, 0, 21, 42, 63, 44, 1, 2, 3, 24);
        Check.same("there", p.way(0, 44, 0), 27);
        Check.same("and back", p.way(44, 0, 0), 27);
        p.land(2, true);
        Check.same("without the shorter one", p.way(0, 44, 0), 28);
    }

    private static void betweenTwoThatAreShut() {
        Check.about("Terms 4: slantwise to a neighbour, whatever lies beside");
        BergPatrol p = new BergPatrol();
        p.land(1, true);
        p.land(20, true);
        Check.same("between two of land", p.way(0, 21, 0), 7);
        BergPatrol q = new BergPatrol();
        Tapes.read(q, "ring 1 0,2 0,2 1,1 1 end");
        Tapes.read(q, "ring 0 1,1 1,1 2,0 2 end");
        Check.same("between two of warnings", q.way(0, 21, 0), 7);
    }

    private static void bergsDoNotShut() {
        Check.about("Terms 4: LAND and WARNINGS alone are shut: a BERG without a WARNING is not");
        BergPatrol p = Seas.with(1, 20, 21);
        Check.same("over bergs", p.way(0, 2, 0), 10);
        Check.same("to a berg", p.way(0, 21, 0), 7);
    }

    private static void countNow() {
        Check.about("Promise 22: 0 NOW");
        BergPatrol p = new BergPatrol();
        Check.same("at first", p.count(0), 0);
        p.step(50);
        p.step(0);
        p.step(1);
        Check.same("behind 51", p.count(0), 51);
    }

    private static void countBergs() {
        Check.about("Promise 22: 1 BERGS");
        BergPatrol p = Seas.with(0, 40);
        p.tell(0, 5);
        Check.same("joined ones are not new", p.count(1), 2);
        p.look(0, 100);
        Check.same("gone ones count", p.count(1), 2);
    }

    private static void countNotGone() {
        Check.about("Promise 22: 2 of them not GONE");
        BergPatrol p = Seas.with(0, 40, 80);
        Check.same("all", p.count(2), 3);
        p.look(0, 100);
        Check.same("without the first", p.count(2), 2);
        p.look(80, 100);
        Check.same("without the last", p.count(2), 1);
        p.look(40, 100);
        Check.same("none", p.count(2), 0);
    }

    private static void countWarnings() {
        Check.about("Promise 22: 3 WARNINGS");
        BergPatrol p = Seas.with(0);
        p.warn();
        p.warn();
        p.cancel(0);
        Check.same("cancelled ones count", p.count(3), 2);
    }

    private static void countInForce() {
        Check.about("Promise 22: 4 of them in force NOW");
        BergPatrol p = Seas.with(0);
        p.warn();
        p.warn();
        Check.same("at the step at which they were told", p.count(4), 2);
        p.cancel(1);
        Check.same("not one that is cancelled now", p.count(4), 1);
        p.step(5);
        Check.same("later", p.count(4), 1);
        p.cancel(0);
        Check.same("none", p.count(4), 0);
    }

    private static void countSquares() {
        Check.about("Promise 22: 5 SQUARES where some BERG MAY BE");
        BergPatrol p = Seas.with(150, 150);
        p.tell(150, 101);
        Check.same("several in one count once", p.count(5), 1);
        p.step(1);
        Check.same("spread", p.count(5), 5);
        p.tell(0, 50);
        Check.same("another one", p.count(5), 6);
        p.look(150, 100);
        Check.same("without one", p.count(5), 5);
        BergPatrol q = Seas.with(279);
        Seas.leave(q, 279, 1);
        Check.same("a single part", q.count(5), 1);
        q.look(279, 1);
        Check.same("none", q.count(5), 0);
    }

    private static void countBytes() {
        Check.about("Promise 22: 6 bytes of the TAPE");
        BergPatrol p = Seas.with(0);
        p.feed(0, 0, 0, 0, 0);
        Check.same("fed", p.count(6), 20);
        p.end(3);
        Check.same("cut", p.count(6), 3);
        p.warn();
        p.write(0);
        Check.same("written", p.count(6), 24);
        p.read();
        Check.same("used up", p.count(6), 0);
    }

    private static void countJoined() {
        Check.about("Promise 22: 7 TELLINGS that were JOINED");
        BergPatrol p = Seas.with(0, 40);
        Check.same("new ones are not", p.count(7), 0);
        p.tell(0, 50);
        p.tell(0, 50);
        p.tell(40, 50);
        Check.same("each one is", p.count(7), 3);
        p.look(0, 100);
        Check.same("though the berg is gone", p.count(7), 3);
        p.tell(0, 50);
        Check.same("a new one is not", p.count(7), 3);
    }

    private static void countAnother() {
        Check.about("Promise 22: NONE for another what");
        BergPatrol p = Seas.with(0);
        int[] others = {-1, 8, 9, Integer.MIN_VALUE, Integer.MAX_VALUE};
        for (int what : others) {
            Check.same("what " + what, p.count(what), NONE);
        }
    }
}
