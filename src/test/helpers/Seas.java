/** What several tests do with a sea. */
final class Seas {
    static final int SQUARES = 280;
    static final int ALL = 1000000;
    static final int[] NO_SQUARES = {-1, 280, Integer.MIN_VALUE, Integer.MAX_VALUE};

    private Seas() { }

    static int square(int x, int y) {
        return 20 * y + x;
    }

    static boolean isIn(int x, int y) {
        return x >= 0 && x <= 19 && y >= 0 && y <= 13;
    }

    /** How many of the four beside a square are in the sea. */
    static int sides(int square) {
        int x = square % 20;
        int y = square / 20;
        return (x > 0 ? 1 : 0) + (x < 19 ? 1 : 0) + (y > 0 ? 1 : 0) + (y < 13 ? 1 : 0);
    }

    /** Looks until just 1 to 100 parts are left of each berg that has all its parts in a square. */
    static void leave(BergPatrol p, int square, int parts) {
        p.look(square, 99);
        p.look(square, 99);
        p.look(square, 100 - parts);
        Check.same("parts left", p.parts(p.count(1) - 1, square), parts);
    }

    static void warmAll(BergPatrol p, int warmth) {
        for (int s = 0; s < SQUARES; s++) {
            p.water(s, 0, 0, warmth);
        }
    }

    static void landAllBut(BergPatrol p, int... open) {
        for (int s = 0; s < SQUARES; s++) {
            boolean isOpen = false;
            for (int o : open) {
                isOpen |= o == s;
            }
            if (!isOpen) {
                p.land(s, true);
            }
        }
    }

    /** Squares that no way may go over: land, or in a warning that is in force at a step. */
    static String shut(BergPatrol p, int step) {
        StringBuilder s = new StringBuilder();
        for (int i = 0; i < SQUARES; i++) {
            if (p.way(i, i, step) == BergPatrol.NONE) {
                s.append(s.length() > 0 ? " " : "").append(i);
            }
        }
        return s.toString();
    }

    /** The squares that are in the warning of a text. */
    static String squaresOf(String text) {
        BergPatrol p = new BergPatrol();
        Tapes.read(p, text);
        return shut(p, 0);
    }

    static String limit(BergPatrol p) {
        StringBuilder s = new StringBuilder();
        int corners = p.limit();
        for (int k = 0; k < corners; k++) {
            s.append(k > 0 ? "," : "").append(p.corner(k, false)).append(' ').append(p.corner(k, true));
        }
        return s.toString();
    }

    /** Bergs of size 100, one told in each square. */
    static BergPatrol with(int... squares) {
        BergPatrol p = new BergPatrol();
        for (int s : squares) {
            p.tell(s, 100);
        }
        return p;
    }
}
