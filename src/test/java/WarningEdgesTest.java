/** The edges of WARNINGS (Terms 3), and of promises 13 warn, 16 cancel, 17 force: a test for each sentence. */
public final class WarningEdgesTest {
    private static final int NONE = BergPatrol.NONE;
    private static final String PLAIN = "ring 0 0,4 0,4 4 end";

    public static void main(String[] args) {
        limitBecomesOne();
        toldNow();
        noCorners();
        thereAreForty();
        numbered();
        cancelOfNone();
        cancelledNow();
        wasCancelled();
        forceOfNone();
        fromThatOn();
        upToButNotAt();
        toldAndCancelledAtOnce();
        itsMiddle();
        backToTheFirst();
        anOddNumber();
        justOneEndIsHigher();
        strictlyLeft();
        wherever();
        theWholeSea();
        roundEitherWay();
        Check.end();
    }

    private static void limitBecomesOne() {
        Check.about("Promise 13: The LIMIT becomes a WARNING: its number");
        BergPatrol p = Seas.with(0, 21);
        Check.same("warn", p.warn(), 0);
        p.write(0);
        Check.same("its corners", Tapes.all(p), "ring " + Seas.limit(p) + " end");
        p.look(21, 100);
        Check.same("warn again", p.warn(), 1);
        p.write(1);
        Check.same("its corners", Tapes.all(p), "ring 0 0,1 0,1 1,0 1 end");
        p.write(0);
        Check.same("the first stays as it was", Tapes.all(p), "ring 0 0,1 0,2 1,2 2,1 2,0 1 end");
        Check.same("the bergs stay, too", p.berg(0, 4), Seas.ALL);
    }

    private static void toldNow() {
        Check.about("Promise 13: told NOW");
        BergPatrol p = Seas.with(0);
        p.step(50);
        p.warn();
        Check.same("at 49", p.force(0, 49), false);
        Check.same("at 50", p.force(0, 50), true);
        Check.same("in force now", p.count(4), 1);
    }

    private static void noCorners() {
        Check.about("Promise 13: NONE, and nothing happens, if it has no corners");
        BergPatrol p = new BergPatrol();
        Check.same("without bergs", p.warn(), NONE);
        p.tell(0, 1);
        p.step(1);
        Check.same("with one that melted", p.warn(), NONE);
        p.tell(0, 1);
        p.look(0, 100);
        Check.same("with one that is gone by a look", p.warn(), NONE);
        Check.same("warnings", p.count(3), 0);
        Check.same("in force", p.count(4), 0);
        Check.noIndex("there is none", () -> p.force(0, 0));
    }

    private static void thereAreForty() {
        Check.about("Promise 13: NONE, and nothing happens, if there are 40 WARNINGS");
        BergPatrol p = Seas.with(0);
        for (int w = 0; w < 39; w++) {
            Tapes.read(p, PLAIN);
        }
        Check.same("the fortieth", p.warn(), 39);
        Check.same("the next one", p.warn(), NONE);
        p.cancel(0);
        p.cancel(39);
        Check.same("cancelled ones count", p.warn(), NONE);
        Check.same("warnings", p.count(3), 40);
        Check.same("in force", p.count(4), 38);
        Check.noIndex("no warning 40", () -> p.write(40));
        Check.same("warning 39 stays", p.write(39), 24);
    }

    private static void numbered() {
        Check.about("Terms 3: WARNINGS (at most 40, numbered from 0 on)");
        BergPatrol p = Seas.with(0);
        for (int w = 0; w < 40; w++) {
            Check.same("warning " + w, w % 2 == 0 ? p.warn() : Tapes.read(p, PLAIN), w);
            Check.same("warnings", p.count(3), w + 1);
        }
        Check.same("the first", p.write(0), 24);
        Check.same("the last", p.write(39), 20);
    }

    private static void cancelOfNone() {
        Check.about("Promise 16: IndexOutOfBoundsException: there is no such WARNING");
        BergPatrol p = Seas.with(0);
        Check.noIndex("cancel 0 of none", () -> p.cancel(0));
        p.warn();
        int[] none = {-1, 1, 40, Integer.MIN_VALUE, Integer.MAX_VALUE};
        for (int w : none) {
            Check.noIndex("cancel " + w, () -> p.cancel(w));
        }
        Check.same("in force", p.count(4), 1);
    }

    private static void cancelledNow() {
        Check.about("Promise 16: A WARNING is cancelled NOW: true");
        BergPatrol p = Seas.with(0);
        p.warn();
        p.warn();
        p.step(3);
        Check.same("cancel", p.cancel(0), true);
        Check.same("at 2", p.force(0, 2), true);
        Check.same("at 3", p.force(0, 3), false);
        Check.same("the other one", p.force(1, 3), true);
        Check.same("warnings", p.count(3), 2);
        Check.same("in force", p.count(4), 1);
    }

    private static void wasCancelled() {
        Check.about("Promise 16: false, and nothing happens, if it was");
        BergPatrol p = Seas.with(0);
        p.warn();
        p.step(3);
        p.cancel(0);
        Check.same("at once", p.cancel(0), false);
        p.step(3);
        Check.same("later", p.cancel(0), false);
        Check.same("at 2", p.force(0, 2), true);
        for (int step = 3; step <= 7; step++) {
            Check.same("at " + step, p.force(0, step), false);
        }
    }

    private static void forceOfNone() {
        Check.about("Promise 17: IndexOutOfBoundsException: there is no such WARNING");
        BergPatrol p = Seas.with(0);
        Check.noIndex("force 0 of none", () -> p.force(0, 0));
        p.warn();
        int[] none = {-1, 1, 40, Integer.MIN_VALUE, Integer.MAX_VALUE};
        for (int w : none) {
            Check.noIndex("force " + w, () -> p.force(w, 0));
        }
    }

    private static void fromThatOn() {
        Check.about("Terms 3: In force at a step from that at which it was told on");
        BergPatrol p = Seas.with(0);
        p.step(7);
        p.warn();
        int[] ahead = {6, 0, -1, Integer.MIN_VALUE};
        for (int step : ahead) {
            Check.same("at " + step, p.force(0, step), false);
        }
        int[] behind = {7, 8, 1000, Integer.MAX_VALUE};
        for (int step : behind) {
            Check.same("at " + step, p.force(0, step), true);
        }
        BergPatrol q = Seas.with(0);
        q.warn();
        Check.same("told at 0, at 0", q.force(0, 0), true);
        Check.same("told at 0, at -1", q.force(0, -1), false);
    }

    private static void upToButNotAt() {
        Check.about("Terms 3: up to, but not at, that at which it was cancelled");
        BergPatrol p = Seas.with(0);
        p.step(7);
        p.warn();
        p.step(2);
        p.cancel(0);
        Check.same("at 6", p.force(0, 6), false);
        Check.same("at 7", p.force(0, 7), true);
        Check.same("at 8", p.force(0, 8), true);
        Check.same("at 9", p.force(0, 9), false);
        Check.same("at 10", p.force(0, 10), false);
        Check.same("at the last one", p.force(0, Integer.MAX_VALUE), false);
        Check.same("at the first one", p.force(0, Integer.MIN_VALUE), false);
    }

    private static void toldAndCancelledAtOnce() {
        Check.about("Terms 3: told and cancelled at one step it never is in force");
        BergPatrol p = Seas.with(0);
        p.step(7);
        p.warn();
        Check.same("cancel", p.cancel(0), true);
        for (int step = 6; step <= 8; step++) {
            Check.same("at " + step, p.force(0, step), false);
        }
        BergPatrol q = Seas.with(0);
        q.warn();
        q.cancel(0);
        Check.same("told and cancelled at 0", q.force(0, 0), false);
        Check.same("in force", q.count(4), 0);
    }

    private static void itsMiddle() {
        Check.about("Terms 3: A SQUARE is in a WARNING, if its middle (x and a half, y and a half) is");
        for (int s = 0; s < Seas.SQUARES; s++) {
            int x = s % 20;
            int y = s / 20;
            String ring = "ring " + x + " " + y + "," + (x + 1) + " " + y + "," + (x + 1) + " " + (y + 1) + "," + x + " " + (y + 1);
            BergPatrol p = new BergPatrol();
            Tapes.read(p, ring + " end");
            Check.same("square " + s, p.way(s, s, 0), NONE);
            Check.same("beside " + s, p.way((s + 1) % 280, (s + 1) % 280, 0), 0);
            Check.same("above " + s, p.way((s + 20) % 280, (s + 20) % 280, 0), 0);
        }
        Check.same("most of a square, but not its middle", Seas.squaresOf("ring 0 0,20 0,20 1 end"), "10 11 12 13 14 15 16 17 18 19");
    }

    private static void backToTheFirst() {
        Check.about("Terms 3: (the last corner back to the first, too)");
        Check.same("the last side is the right one", Seas.squaresOf("ring 4 4,0 4,0 0,4 0 end"),
            Seas.squaresOf("ring 0 0,4 0,4 4,0 4 end"));
        // The middle of 41 is on the left side, so in; that of 44 is on the right one, so not.
        String[] begun = {"0 0,6 0,3 5", "6 0,3 5,0 0", "3 5,0 0,6 0"};
        for (String b : begun) {
            Check.same("begun with " + b, Seas.squaresOf("ring " + b + " end"), "0 1 2 3 4 5 21 22 23 24 41 42 43 62 63");
        }
    }

    private static void anOddNumber() {
        Check.about("Terms 3: of the ring's sides an odd number goes so");
        String once = "0 0,2 0,2 2,0 2";
        Check.same("once round", Seas.squaresOf("ring " + once + " end"), "0 1 20 21");
        Check.same("twice round", Seas.squaresOf("ring " + once + "," + once + " end"), "");
        Check.same("three times round", Seas.squaresOf("ring " + once + "," + once + "," + once + " end"), "0 1 20 21");
        Check.same("two rounds that share squares", Seas.squaresOf("ring 0 0,3 0,3 1,0 1,0 0,2 0,2 1,0 1 end"), "2");
    }

    private static void justOneEndIsHigher() {
        Check.about("Terms 3: just one of its ends is higher than the middle");
        Check.same("flat sides alone", Seas.squaresOf("ring 0 1,20 1,10 1 end"), "");
        Check.same("one row", Seas.squaresOf("ring 0 1,20 1,20 2,0 2 end"),
            "20 21 22 23 24 25 26 27 28 29 30 31 32 33 34 35 36 37 38 39");
        Check.same("one pile", Seas.squaresOf("ring 3 0,4 0,4 14,3 14 end"), "3 23 43 63 83 103 123 143 163 183 203 223 243 263");
        Check.same("a corner in the middle of a side", Seas.squaresOf("ring 0 0,4 0,4 1,4 2,0 2 end"), "0 1 2 3 20 21 22 23");
        Check.same("up and back again", Seas.squaresOf("ring 4 0,4 14,4 0 end"), "");
    }

    private static void strictlyLeft() {
        Check.about("Terms 3: the middle lies strictly left of where the side has the middle's height");
        Check.same("on a falling side, right", Seas.squaresOf("ring 0 0,1 0,0 1 end"), "");
        Check.same("on a falling side, left", Seas.squaresOf("ring 1 0,1 1,0 1 end"), "0");
        Check.same("on a rising side, right", Seas.squaresOf("ring 0 0,1 1,0 1 end"), "");
        Check.same("on a rising side, left", Seas.squaresOf("ring 0 0,1 0,1 1 end"), "0");
        Check.same("on a steep side, right", Seas.squaresOf("ring 0 0,1 3,0 3 end"), "40");
        Check.same("on a steep side, left", Seas.squaresOf("ring 0 0,1 0,1 3 end"), "0 20");
        Check.same("on a flat side, right", Seas.squaresOf("ring 0 0,3 0,0 1 end"), "0");
        Check.same("on a flat side, left", Seas.squaresOf("ring 3 0,3 1,0 1 end"), "1 2");
        Check.same("by the least that can be", Seas.squaresOf("ring 0 0,20 13,0 13 end").split(" ").length, 130);
    }

    private static void wherever() {
        Check.about("Terms 3: where the side has the middle's height, wherever in the sea the side lies");
        for (int x = 0; x <= 16; x += 4) {
            for (int y = 0; y <= 10; y += 2) {
                String ring = "ring " + x + " " + y + "," + (x + 4) + " " + (y + 2) + "," + x + " " + (y + 4) + " end";
                // The slant sides are at x and 1, 3, 3, 1 at the middles' heights.
                int[] by = {0, 20, 21, 22, 40, 41, 42, 60};
                StringBuilder due = new StringBuilder();
                for (int b : by) {
                    due.append(due.length() > 0 ? " " : "").append(Seas.square(x, y) + b);
                }
                Check.same(ring, Seas.squaresOf(ring), due.toString());
            }
        }
    }

    private static void theWholeSea() {
        Check.about("Terms 3: corners x 0 to 20, y 0 to 14: a ring can have all SQUARES");
        StringBuilder all = new StringBuilder("0");
        for (int s = 1; s < Seas.SQUARES; s++) {
            all.append(' ').append(s);
        }
        Check.same("all", Seas.squaresOf("ring 0 0,20 0,20 14,0 14 end"), all.toString());
    }

    private static void roundEitherWay() {
        Check.about("Terms 3: 3 to 40 corners, in a ring: which way round is all the same");
        Check.same("the other way", Seas.squaresOf("ring 3 5,6 0,0 0 end"), Seas.squaresOf("ring 0 0,6 0,3 5 end"));
        Check.same("40 corners, most of them one", Seas.squaresOf(Tapes.ring(40)), "0 1 21");
    }
}
