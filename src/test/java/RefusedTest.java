/** The sentence on exceptions, and each "nothing happens": what a call that is refused leaves as it was, and which exception it throws. */
public final class RefusedTest {
    private static final String PLAIN = "ring 0 0,4 0,4 4 end";
    private static final int[] WRONG = {Integer.MIN_VALUE, -1, Integer.MAX_VALUE};

    /** A call on an object whose past is told. */
    private interface On {
        void call(BergPatrol p);
    }

    public static void main(String[] args) {
        noSuch();
        noArgument();
        noState();
        noMore();
        noElement();
        toldFirst();
        wrongText();
        noMoreTexts();
        nothingHappens();
        asksAlone();
        Check.end();
    }

    /** Land, currents, a berg that has spread, one that is gone, warnings, one of them cancelled, bytes, a wrong byte. */
    private static void some(BergPatrol p) {
        p.land(5, true);
        p.water(150, 1, -1, 3);
        p.water(131, -2, 0, 50);
        p.tell(150, 100);
        p.tell(42, 10);
        p.tell(200, 7);
        Tapes.read(p, PLAIN);
        p.step(2);
        p.warn();
        p.cancel(0);
        p.look(200, 30);
        for (int s = 0; s < 84; s++) {
            p.look(s, 100);
        }
        p.tell(150, 90);
        p.step(1);
        Tapes.put(p, "ring x");
        try {
            p.read();
        } catch (IllegalArgumentException e) {
            Tapes.put(p, "bytes of the tape");
        }
    }

    /** Ten bergs, forty warnings, a tape of 400 bytes. */
    private static void full(BergPatrol p) {
        for (int b = 0; b < 10; b++) {
            p.tell(28 * b, 100 + b);
        }
        p.land(5, true);
        for (int w = 0; w < 40; w++) {
            p.warn();
        }
        p.cancel(7);
        p.step(2);
        for (int i = 0; i < 20; i++) {
            p.feed(i, -i, i << 24, i << 9, 1 << i);
        }
    }

    private static void refuses(String what, Class<? extends RuntimeException> due, On past, On call) {
        Twins.same(what, p -> {
            past.call(p);
            Check.throwsJust(what, due, () -> call.call(p));
        }, past::call, true);
    }

    private static void refusesIndex(String what, On call) {
        refuses(what, IndexOutOfBoundsException.class, RefusedTest::some, call);
    }

    private static void refusesArgument(String what, On call) {
        refuses(what, IllegalArgumentException.class, RefusedTest::some, call);
    }

    private static void noSuch() {
        Check.about("IndexOutOfBoundsException: there is no such SQUARE, BERG, WARNING; a call that throws changes nothing");
        for (int s : Seas.NO_SQUARES) {
            refusesIndex("water " + s, p -> p.water(s, 1, 1, 1));
            refusesIndex("land " + s, p -> p.land(s, true));
            refusesIndex("tell " + s, p -> p.tell(s, 5));
            refusesIndex("look " + s, p -> p.look(s, 100));
            refusesIndex("parts of square " + s, p -> p.parts(0, s));
            refusesIndex("way from " + s, p -> p.way(s, 0, 0));
            refusesIndex("way to " + s, p -> p.way(0, s, 0));
        }
        int[] none = {-1, 3, Integer.MIN_VALUE, Integer.MAX_VALUE};
        for (int n : none) {
            refusesIndex("parts of berg " + n, p -> p.parts(n, 0));
            refusesIndex("berg " + n, p -> p.berg(n, 0));
            refusesIndex("cancel " + n, p -> p.cancel(n));
            refusesIndex("force " + n, p -> p.force(n, 0));
            refusesIndex("write " + n, p -> p.write(n));
        }
    }

    private static void noArgument() {
        Check.about("IllegalArgumentException: a call that throws changes nothing");
        int[][] water = {{3, 0, 0}, {-3, 0, 0}, {0, 3, 0}, {0, -3, 0}, {0, 0, -1}, {0, 0, 51}};
        for (int[] w : water) {
            refusesArgument("water " + w[0] + " " + w[1] + " " + w[2], p -> p.water(131, w[0], w[1], w[2]));
        }
        int[] sizes = {0, -1, 1001};
        for (int size : sizes) {
            refusesArgument("tell of size " + size, p -> p.tell(131, size));
        }
        refusesArgument("tell on land", p -> p.tell(5, 5));
        int[] steps = {-1, 51, Integer.MAX_VALUE};
        for (int n : steps) {
            refusesArgument("step " + n, p -> p.step(n));
        }
        int[] sharpness = {-1, 101};
        for (int n : sharpness) {
            refusesArgument("look of " + n, p -> p.look(131, n));
        }
    }

    private static void noState() {
        Check.about("IllegalStateException: a call that throws changes nothing");
        refuses("land where a berg may be", IllegalStateException.class, RefusedTest::some, p -> p.land(131, true));
        refuses("land where the tenth may be", IllegalStateException.class, RefusedTest::full, p -> p.land(252, true));
    }

    private static void noMore() {
        Check.about("UnsupportedOperationException: a call that throws changes nothing");
        refuses("tell an eleventh", UnsupportedOperationException.class, RefusedTest::full, p -> p.tell(9, 1000));
        refuses("tell one that is too great", UnsupportedOperationException.class, RefusedTest::full, p -> p.tell(28, 1000));
    }

    private static void noElement() {
        Check.about("NoSuchElementException: a call that throws changes nothing");
        int[] whats = {-1, 6};
        for (int what : whats) {
            refuses("berg, what " + what, java.util.NoSuchElementException.class, RefusedTest::some, p -> p.berg(0, what));
        }
    }

    private static void toldFirst() {
        Check.about("Of several exceptions the one told first is thrown");
        BergPatrol p = new BergPatrol();
        full(p);
        Check.noIndex("water: no square, no current", () -> p.water(280, 3, 0, 0));
        Check.noIndex("land: no square", () -> p.land(-1, true));
        Check.noIndex("tell: no square, no size, ten bergs", () -> p.tell(280, 0));
        Check.noArgument("tell: no size, ten bergs", () -> p.tell(9, 0));
        Check.noArgument("tell: land, ten bergs", () -> p.tell(5, 1000));
        Check.notSupported("tell: ten bergs", () -> p.tell(9, 1000));
        Check.noIndex("look: no square, no sharpness", () -> p.look(280, 101));
        Check.noIndex("parts: no berg, no square", () -> p.parts(10, 280));
        Check.noIndex("berg: no berg, another what", () -> p.berg(10, 6));
        Check.noIndex("way: no squares", () -> p.way(280, -1, 0));
        Check.noArgument("read: a wrong text, forty warnings", p::read);
        Tapes.put(p, PLAIN);
        Check.notSupported("read: forty warnings", p::read);
    }

    private static void wrongText() {
        Check.about("a call that throws changes nothing but the TAPE, where it is used up: IllegalArgumentException of read()");
        String[] wrong = {"", "ring", "ring 0 0,4 0,4 4 end x", "ring 0 0,4 0 end", "\0"};
        for (String text : wrong) {
            Twins.same("read <" + text + ">", p -> {
                some(p);
                p.end(0);
                Tapes.put(p, text);
                Check.noArgument("read <" + text + ">", p::read);
            }, p -> {
                some(p);
                p.end(0);
            }, false);
        }
    }

    private static void noMoreTexts() {
        Check.about("a call that throws changes nothing but the TAPE, where it is used up: UnsupportedOperationException of read()");
        Twins.same("read a 41st", p -> {
            full(p);
            p.end(0);
            Tapes.put(p, PLAIN);
            Check.notSupported("read a 41st", p::read);
        }, p -> {
            full(p);
            p.end(0);
        }, true);
    }

    private static void leaves(String what, On past, On call) {
        Twins.same(what, p -> {
            past.call(p);
            call.call(p);
        }, past::call, true);
    }

    private static void nothingHappens() {
        Check.about("Promises 2, 3, 13, 16: NONE or false, and nothing happens");
        leaves("feed of a full tape", RefusedTest::full, p -> Check.same("feed", p.feed(1, 2, 3, 4, 5), BergPatrol.NONE));
        for (int n : WRONG) {
            leaves("end " + n, RefusedTest::some, p -> Check.same("end", p.end(n), false));
        }
        leaves("end 18 of 17", RefusedTest::some, p -> Check.same("end", p.end(18), false));
        leaves("warn without corners", p -> Tapes.read(p, PLAIN), p -> Check.same("warn", p.warn(), BergPatrol.NONE));
        leaves("warn with 40", RefusedTest::full, p -> Check.same("warn", p.warn(), BergPatrol.NONE));
        leaves("cancel a cancelled one", RefusedTest::some, p -> Check.same("cancel", p.cancel(0), false));
        leaves("cancel another", RefusedTest::full, p -> Check.same("cancel", p.cancel(7), false));
        leaves("step 0", RefusedTest::some, p -> p.step(0));
        leaves("look of sharpness 0", RefusedTest::some, p -> Check.same("look", p.look(131, 0), 0));
        leaves("look where none may be", RefusedTest::some, p -> Check.same("look", p.look(0, 100), 0));
    }

    private static void asksAlone() {
        Check.about("Promises 9 to 12, 15, 17, 19 to 22: calls that only ask change nothing");
        leaves("parts", RefusedTest::some, p -> p.parts(0, 131));
        for (int i = 0; i <= 5; i++) {
            int what = i;
            leaves("berg " + what, RefusedTest::some, p -> p.berg(0, what));
        }
        leaves("limit", RefusedTest::some, p -> p.limit());
        leaves("corner", RefusedTest::some, p -> p.corner(2, true));
        leaves("fault", RefusedTest::some, p -> Check.same("fault", p.fault(), 5));
        leaves("force", RefusedTest::some, p -> p.force(0, 1));
        leaves("taped", RefusedTest::some, p -> p.taped(1));
        leaves("way", RefusedTest::some, p -> p.way(19, 279, 1));
        leaves("flight", RefusedTest::some, p -> p.flight());
        for (int i = -1; i <= 8; i++) {
            int what = i;
            leaves("count " + what, RefusedTest::some, p -> p.count(what));
        }
        for (int n : WRONG) {
            leaves("corner " + n, RefusedTest::some, p -> Check.same("corner", p.corner(n, true), BergPatrol.NONE));
            leaves("taped " + n, RefusedTest::some, p -> Check.same("taped", p.taped(n), BergPatrol.NONE));
        }
    }
}
