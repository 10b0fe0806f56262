/** Texts onto the tape, and back from it. */
final class Tapes {
    private Tapes() { }

    /** Behind what the tape has: whole feeds, and then the end that the text has. */
    static void put(BergPatrol p, String text) {
        int before = p.count(6);
        for (int i = 0; i < text.length(); i += 20) {
            int[] five = new int[5];
            for (int k = 0; k < 20; k++) {
                int b = i + k < text.length() ? text.charAt(i + k) : 0;
                five[k / 4] |= b << (24 - k % 4 * 8);
            }
            if (p.feed(five[0], five[1], five[2], five[3], five[4]) == BergPatrol.NONE) {
                throw new IllegalStateException("the tape is full");
            }
        }
        p.end(before + text.length());
    }

    static String all(BergPatrol p) {
        StringBuilder s = new StringBuilder();
        int bytes = p.count(6);
        for (int i = 0; i < bytes; i++) {
            s.append((char) p.taped(i));
        }
        return s.toString();
    }

    static int read(BergPatrol p, String text) {
        p.end(0);
        put(p, text);
        return p.read();
    }

    /** What fault() tells of a text, and that read() throws just if it tells one. */
    static int fault(BergPatrol p, String text) {
        boolean thrown = false;
        try {
            read(p, text);
        } catch (IllegalArgumentException e) {
            thrown = true;
        }
        Check.same("read() of <" + text + "> throws", thrown, p.fault() != BergPatrol.NONE);
        Check.same("bytes left by read() of <" + text + ">", p.count(6), 0);
        return p.fault();
    }

    /** A text of n corners, all 0 0 but the first two. */
    static String ring(int n) {
        StringBuilder s = new StringBuilder("ring ");
        for (int i = 0; i < n; i++) {
            s.append(i > 0 ? "," : "").append(i == 0 ? "2 0" : i == 1 ? "2 2" : "0 0");
        }
        return s.append(" end").toString();
    }
}
