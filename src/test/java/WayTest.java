/** Promises 20 way, 22 count; and which squares are in a warning, as ways tell it. */
public final class WayTest {
    public static void main(String[] args) {
        openSea();
        aroundLand();
        throughSlants();
        aroundWarnings();
        atSteps();
        squaresOfRings();
        crossedRings();
        refusesWrongNumbers();
        counts();
        Check.end();
    }

    private static void openSea() {
        BergPatrol p = new BergPatrol();
        Check.same("to itself", p.way(0, 0, 0), 0);
        Check.same("right", p.way(0, 1, 0), 5);
        Check.same("up", p.way(0, 20, 0), 5);
        Check.same("slantwise", p.way(0, 21, 0), 7);
        Check.same("back", p.way(21, 0, 0), 7);
        Check.same("a row", p.way(0, 19, 0), 95);
        Check.same("not round the edge", p.way(19, 20, 0), 5 * 18 + 7);
        Check.same("from end to end", p.way(0, 279, 0), 13 * 7 + 6 * 5);
        for (int from = 0; from < 280; from += 31) {
            BergPatrol open = new BergPatrol();
            for (int to = 0; to < 280; to++) {
                int across = Math.abs(from % 20 - to % 20);
                int up = Math.abs(from / 20 - to / 20);
                Check.same("from " + from + " to " + to, open.way(from, to, 0), 5 * Math.max(across, up) + 2 * Math.min(across, up));
            }
        }
        Check.same("a knight", p.way(0, 41, 0), 12);
    }

    private static void aroundLand() {
        BergPatrol p = new BergPatrol();
        for (int y = 0; y < 13; y++) {
            p.land(20 * y + 10, true);
        }
        Check.same("through the one gap", p.way(9, 11, 0), 2 * 7 + 24 * 5);
        Check.same("to land", p.way(9, 10, 0), BergPatrol.NONE);
        Check.same("from land", p.way(10, 9, 0), BergPatrol.NONE);
        Check.same("from land to itself", p.way(10, 10, 0), BergPatrol.NONE);
        p.land(270, true);
        Check.same("no gap", p.way(9, 11, 0), BergPatrol.NONE);
        p.land(10, false);
        Check.same("a new gap", p.way(9, 11, 0), 10);
        snake();
    }

    /** Walls from below and from above by turns make the way long. */
    private static void snake() {
        BergPatrol p = new BergPatrol();
        for (int x = 1; x < 19; x += 2) {
            for (int y = 0; y < 13; y++) {
                p.land(20 * (x % 4 == 1 ? y : 13 - y) + x, true);
            }
        }
        // 12 up at first; nine gaps, at each two slants; 11 between them, eight times; 12 down at last.
        Check.same("a snake", p.way(0, 18, 0), 60 + 9 * 14 + 8 * 55 + 60);
    }

    private static void throughSlants() {
        BergPatrol p = new BergPatrol();
        p.land(1, true);
        p.land(20, true);
        Check.same("between two that touch slantwise", p.way(0, 21, 0), 7);
        p.land(21, true);
        Check.same("shut in", p.way(0, 22, 0), BergPatrol.NONE);
    }

    private static void aroundWarnings() {
        BergPatrol p = new BergPatrol();
        Tapes.read(p, "ring 10 0,11 0,11 13,10 13 end");
        Check.same("through the gap", p.way(9, 11, 0), 2 * 7 + 24 * 5);
        Check.same("from within", p.way(10, 9, 0), BergPatrol.NONE);
        Check.same("to within", p.way(9, 10, 0), BergPatrol.NONE);
        Check.same("within alone", p.way(10, 10, 0), BergPatrol.NONE);
        Tapes.read(p, "ring 10 13,11 13,11 14,10 14 end");
        Check.same("both in force", p.way(9, 11, 0), BergPatrol.NONE);
        p.step(1);
        p.cancel(0);
        Check.same("one is cancelled", p.way(9, 11, 1), 10);
        Check.same("at the step before", p.way(9, 11, 0), BergPatrol.NONE);
        p.land(10, true);
        Check.same("land holds at all steps", p.way(9, 11, 1), 14);
        Check.same("land holds at all steps", p.way(10, 10, -5), BergPatrol.NONE);
    }

    private static void atSteps() {
        BergPatrol p = new BergPatrol();
        p.step(5);
        Tapes.read(p, "ring 0 0,20 0,20 14,0 14 end");
        Check.same("ahead of it", p.way(0, 1, 4), 5);
        Check.same("at it", p.way(0, 1, 5), BergPatrol.NONE);
        Check.same("in steps to come", p.way(0, 1, Integer.MAX_VALUE), BergPatrol.NONE);
        Check.same("below 0", p.way(0, 1, Integer.MIN_VALUE), 5);
        p.step(5);
        p.cancel(0);
        Check.same("up to its end", p.way(0, 1, 9), BergPatrol.NONE);
        Check.same("but not at it", p.way(0, 1, 10), 5);
    }

    private static void squaresOfRings() {
        Check.same("one square", Seas.squaresOf("ring 5 5,6 5,6 6,5 6 end"), "105");
        Check.same("round the other way", Seas.squaresOf("ring 5 6,6 6,6 5,5 5 end"), "105");
        Check.same("begun elsewhere", Seas.squaresOf("ring 6 6,5 6,5 5,6 5 end"), "105");
        // The slant side goes through middles: a middle on it is not left of it.
        Check.same("middles on the right side", Seas.squaresOf("ring 0 0,3 0,0 3 end"), "0 1 20");
        Check.same("middles on the left side", Seas.squaresOf("ring 3 0,3 3,0 3 end"), "2 21 22 40 41 42");
        Check.same("middles on a rising right side", Seas.squaresOf("ring 0 0,3 3,0 3 end"), "20 40 41");
        Check.same("middles on a rising left side", Seas.squaresOf("ring 0 0,3 0,3 3 end"), "0 1 2 21 22 42");
        Check.same("a steep side", Seas.squaresOf("ring 0 0,2 0,0 4 end"), "0 1 20 40");
        Check.same("the ends of the sea", Seas.squaresOf("ring 19 13,20 13,20 14,19 14 end"), "279");
        Check.same("no breadth", Seas.squaresOf("ring 0 0,5 5,10 10 end"), "");
        Check.same("one point", Seas.squaresOf("ring 3 3,3 3,3 3 end"), "");
        Check.same("flat", Seas.squaresOf("ring 0 0,20 0,10 0 end"), "");
        Check.same("upright", Seas.squaresOf("ring 3 0,3 14,3 7 end"), "");
    }

    private static void crossedRings() {
        Check.same("twice round is even", Seas.squaresOf("ring 0 0,2 0,2 2,0 2,0 0,2 0,2 2,0 2 end"), "");
        Check.same("a bow tie", Seas.squaresOf("ring 0 0,4 4,4 0,0 4 end"), "3 20 22 23 40 42 43 63");
        Check.same("a hole", Seas.squaresOf("ring 0 0,3 0,3 3,0 3,0 0,1 1,2 1,2 2,1 2,1 1 end"), "0 1 2 20 22 40 41 42");
    }

    private static void refusesWrongNumbers() {
        BergPatrol p = new BergPatrol();
        int[] wrong = {-1, 280, Integer.MIN_VALUE, Integer.MAX_VALUE};
        for (int w : wrong) {
            Check.noIndex("from " + w, () -> p.way(w, 0, 0));
            Check.noIndex("to " + w, () -> p.way(0, w, 0));
        }
    }

    private static void counts() {
        BergPatrol p = new BergPatrol();
        Check.same("what 8", p.count(8), BergPatrol.NONE);
        Check.same("what -1", p.count(-1), BergPatrol.NONE);
        Check.same("what most", p.count(Integer.MAX_VALUE), BergPatrol.NONE);
        Check.same("what least", p.count(Integer.MIN_VALUE), BergPatrol.NONE);
        p.tell(0, 5);
        p.tell(0, 6);
        p.tell(21, 6);
        p.step(2);
        p.step(1);
        Check.same("now", p.count(0), 3);
        Check.same("bergs", p.count(1), 3);
        Check.same("not gone", p.count(2), 3);
        Check.same("squares where some may be", p.count(5), 17);
        p.step(2);
        Check.same("not gone", p.count(2), 2);
        p.warn();
        p.warn();
        p.step(1);
        p.cancel(1);
        p.feed(0, 0, 0, 0, 0);
        Check.same("not gone", p.count(2), 0);
        Check.same("bergs", p.count(1), 3);
        Check.same("warnings", p.count(3), 2);
        Check.same("in force now", p.count(4), 1);
        Check.same("squares", p.count(5), 0);
        Check.same("bytes", p.count(6), 20);
        Check.same("joined", p.count(7), 0);
        p.tell(50, 6);
        p.tell(50, 6);
        p.tell(50, 1);
        Check.same("joined", p.count(7), 2);
    }
}
