/** The edges of promises 2 feed, 3 end, 18 write, 19 taped, and of what is WRITTEN (Terms 3): a test for each sentence. */
public final class TapeEdgesTest {
    public static void main(String[] args) {
        twentyComeBehind();
        highestFirst();
        upTo400();
        noneBeyond400();
        firstAlone();
        fewer();
        below0();
        writeOfNone();
        written();
        writtenNumbers();
        writtenCorners();
        inPlaceOfWhatItHad();
        byteOfTheTape();
        noSuchByte();
        Check.end();
    }

    private static BergPatrol fed(int feeds) {
        BergPatrol p = new BergPatrol();
        for (int i = 0; i < feeds; i++) {
            p.feed(i, i, i, i, i);
        }
        return p;
    }

    private static void twentyComeBehind() {
        Check.about("Promise 2: Twenty bytes come behind the TAPE: how many it has");
        BergPatrol p = new BergPatrol();
        for (int i = 1; i <= 20; i++) {
            Check.same("feed " + i, p.feed(0, 0, 0, 0, i), 20 * i);
            Check.same("bytes", p.count(6), 20 * i);
        }
        for (int i = 1; i <= 20; i++) {
            Check.same("the last of feed " + i, p.taped(20 * i - 1), i);
        }
        BergPatrol q = fed(1);
        q.end(7);
        Check.same("behind an end", q.feed(0x41000000, 0, 0, 0, 0x42), 27);
        Check.same("the first of it", q.taped(7), 'A');
        Check.same("the last of it", q.taped(26), 'B');
    }

    private static void highestFirst() {
        Check.about("Promise 2: of each number the highest first");
        BergPatrol p = new BergPatrol();
        p.feed(0x00010203, 0x7f808182, 0xfffefdfc, Integer.MIN_VALUE, Integer.MAX_VALUE);
        int[] due = {0, 1, 2, 3, 127, 128, 129, 130, 255, 254, 253, 252, 128, 0, 0, 0, 127, 255, 255, 255};
        for (int i = 0; i < 20; i++) {
            Check.same("byte " + i, p.taped(i), due[i]);
        }
        for (int b = 0; b < 256; b++) {
            BergPatrol q = new BergPatrol();
            q.feed(b << 24, b << 16, b << 8, b, -1);
            Check.same("highest", q.taped(0), b);
            Check.same("second", q.taped(5), b);
            Check.same("third", q.taped(10), b);
            Check.same("lowest", q.taped(15), b);
        }
    }

    private static void upTo400() {
        Check.about("Promise 2: it may have 400");
        BergPatrol p = fed(19);
        Check.same("from 380 on", p.feed(1, 2, 3, 4, 5), 400);
        Check.same("the last one", p.taped(399), 5);
        BergPatrol q = fed(20);
        q.end(380);
        Check.same("from 380 on, behind an end", q.feed(1, 2, 3, 4, 5), 400);
    }

    private static void noneBeyond400() {
        Check.about("Promise 2: NONE, and none come, if it would have more than 400");
        for (int n = 381; n <= 400; n++) {
            BergPatrol p = fed(20);
            p.end(n);
            Check.same("from " + n + " on", p.feed(-1, -1, -1, -1, -1), BergPatrol.NONE);
            Check.same("bytes", p.count(6), n);
            Check.same("the last one", p.taped(n - 1), n % 4 == 0 ? (n - 1) / 20 : 0);
            Check.same("behind it", p.taped(n), BergPatrol.NONE);
            Check.same("it can be cut", p.end(380), true);
            Check.same("and fed again", p.feed(1, 2, 3, 4, 5), 400);
        }
    }

    private static void firstAlone() {
        Check.about("Promise 3: The TAPE has its first n bytes alone: true");
        for (int n = 0; n <= 40; n++) {
            BergPatrol p = fed(2);
            Check.same("end " + n, p.end(n), true);
            Check.same("bytes", p.count(6), n);
            Check.same("the last one", p.taped(n - 1), n == 0 ? BergPatrol.NONE : n > 20 && n % 4 == 0 ? 1 : 0);
            Check.same("behind it", p.taped(n), BergPatrol.NONE);
        }
        Check.same("of an empty tape", new BergPatrol().end(0), true);
        Check.same("of a full one", fed(20).end(400), true);
    }

    private static void fewer() {
        Check.about("Promise 3: false, and nothing happens, if it has fewer");
        int[][] cases = {{0, 1}, {1, 21}, {20, 401}, {2, Integer.MAX_VALUE}};
        for (int[] c : cases) {
            BergPatrol p = fed(c[0]);
            Check.same("end " + c[1], p.end(c[1]), false);
            Check.same("bytes", p.count(6), 20 * c[0]);
        }
        BergPatrol p = fed(1);
        p.end(3);
        Check.same("what was cut does not come back", p.end(4), false);
        Check.same("bytes", p.count(6), 3);
    }

    private static void below0() {
        Check.about("Promise 3: false, and nothing happens, if n is below 0");
        int[] below = {-1, -20, Integer.MIN_VALUE};
        for (int n : below) {
            BergPatrol p = fed(1);
            Check.same("end " + n, p.end(n), false);
            Check.same("bytes", p.count(6), 20);
            Check.same("of an empty tape", new BergPatrol().end(n), false);
        }
    }

    private static void writeOfNone() {
        Check.about("Promise 18: IndexOutOfBoundsException: there is no such WARNING");
        BergPatrol p = Seas.with(0);
        p.warn();
        p.feed(1, 2, 3, 4, 5);
        int[] none = {-1, 1, 40, Integer.MIN_VALUE, Integer.MAX_VALUE};
        for (int w : none) {
            Check.noIndex("write " + w, () -> p.write(w));
        }
        Check.same("the tape stays", p.count(6), 20);
        Check.same("its last byte, too", p.taped(19), 5);
    }

    private static String writtenAgain(String text) {
        BergPatrol p = new BergPatrol();
        Tapes.read(p, text);
        int bytes = p.write(0);
        String written = Tapes.all(p);
        Check.same("how many bytes of " + written, bytes, written.length());
        return written;
    }

    private static void written() {
        Check.about("Terms 3: WRITTEN: ring, a blank, the corners (x, a blank, y) with , and nothing else between, a blank, end");
        String plain = "ring 0 0,4 0,4 4 end";
        Check.same("as it was", writtenAgain(plain), plain);
        Check.same("blanks", writtenAgain("  ring  0   0 , 4 0  ,4 4   end  "), plain);
        Check.same("no blanks but between numbers", writtenAgain("ring0 0,4 0,4 4end"), plain);
        Check.same("digits 0 ahead", writtenAgain("ring 00 00,04 00,04 04 end"), plain);
        Check.same("a corner twice", writtenAgain("ring 4 4,4 4,4 4 end"), "ring 4 4,4 4,4 4 end");
        BergPatrol p = Seas.with(279);
        p.warn();
        p.write(0);
        Check.same("a limit", Tapes.all(p), "ring 19 13,20 13,20 14,19 14 end");
    }

    private static void writtenNumbers() {
        Check.about("Terms 3: A NUMBER: 1 or 2 digits (WRITTEN with no more than it has)");
        for (int x = 0; x <= 20; x++) {
            String text = "ring " + x + " 0,0 0," + x + " 14 end";
            Check.same("x " + x, writtenAgain(text), text);
        }
        for (int y = 0; y <= 14; y++) {
            String text = "ring 0 " + y + ",20 " + y + ",0 0 end";
            Check.same("y " + y, writtenAgain(text), text);
        }
    }

    private static void writtenCorners() {
        Check.about("Terms 3: 3 to 40 corners (WRITTEN all, in their order)");
        for (int n = 3; n <= 40; n++) {
            StringBuilder text = new StringBuilder("ring ");
            for (int k = 0; k < n; k++) {
                text.append(k > 0 ? "," : "").append(k % 21).append(' ').append(k * 2 % 15);
            }
            text.append(" end");
            Check.same(n + " corners", writtenAgain(text.toString()), text.toString());
        }
        String longest = "ring " + "20 14,".repeat(39) + "20 14 end";
        Check.same("the longest", writtenAgain(longest), longest);
    }

    private static void inPlaceOfWhatItHad() {
        Check.about("Promise 18: in place of what the TAPE had: how many bytes");
        BergPatrol p = fed(20);
        p.end(0);
        Tapes.read(p, "ring 0 0,4 0,4 4 end");
        for (int i = 0; i < 20; i++) {
            p.feed(-1, -1, -1, -1, -1);
        }
        Check.same("a full tape", p.count(6), 400);
        Check.same("write", p.write(0), 20);
        Check.same("bytes", p.count(6), 20);
        Check.same("the first", p.taped(0), 'r');
        Check.same("the last", p.taped(19), 'd');
        Check.same("behind it", p.taped(20), BergPatrol.NONE);
        Check.same("write again", p.write(0), 20);
        Check.same("what is written can be fed on", p.feed(0, 0, 0, 0, 7), 40);
        p.write(0);
        Check.same("what is written can be read", p.read(), 1);
        p.cancel(0);
        Check.same("a cancelled one is written, too", p.write(0), 20);
    }

    private static void byteOfTheTape() {
        Check.about("Promise 19: Byte i of the TAPE");
        BergPatrol p = fed(20);
        Check.same("the first", p.taped(0), 0);
        Check.same("the last", p.taped(399), 19);
        Check.same("one between", p.taped(203), 10);
    }

    private static void noSuchByte() {
        Check.about("Promise 19: NONE if there is none such");
        Check.same("of an empty tape", new BergPatrol().taped(0), BergPatrol.NONE);
        int[] none = {-1, 20, 400, Integer.MIN_VALUE, Integer.MAX_VALUE};
        for (int i : none) {
            Check.same("byte " + i, fed(1).taped(i), BergPatrol.NONE);
        }
        Check.same("byte 400 of a full one", fed(20).taped(400), BergPatrol.NONE);
        BergPatrol p = fed(1);
        p.end(19);
        Check.same("one that was cut", p.taped(19), BergPatrol.NONE);
        BergPatrol q = fed(1);
        Check.noArgument("a wrong text", q::read);
        Check.same("one that was used up", q.taped(0), BergPatrol.NONE);
    }
}
