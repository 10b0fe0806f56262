/** The edges of a LOOK and a TELLING (Terms 1 and 2), and of promises 6 tell, 8 look, 9 parts, 10 berg: a test for each sentence. */
public final class TellEdgesTest {
    private static final int MIDDLE = 150;

    public static void main(String[] args) {
        lookNoSquare();
        sharpnesses();
        sharpnessNone();
        ofEachBerg();
        roundedUp();
        howManyAway();
        goneByALook();
        notGoneByALook();
        numbered();
        atMostTen();
        joinedThoughTen();
        sizes();
        sizeNone();
        onLand();
        goneIsNotJoined();
        mayBeThere();
        atLeastThatSize();
        theMostParts();
        theLeastNumber();
        becomesSo();
        newLikewise();
        partsOfNone();
        bergOfNone();
        bergNoSuchWhat();
        bergSize();
        bergAge();
        bergGone();
        bergSquares();
        bergParts();
        bergOut();
        Check.end();
    }

    private static void lookNoSquare() {
        Check.about("Promise 8: IndexOutOfBoundsException is told ahead of IllegalArgumentException");
        for (int s : Seas.NO_SQUARES) {
            Check.noIndex("look " + s + ", a wrong sharpness", () -> new BergPatrol().look(s, 101));
        }
    }

    private static void sharpnesses() {
        Check.about("Terms 1: a SHARPNESS (0 to 100, of a hundred)");
        for (int sharpness = 0; sharpness <= 100; sharpness++) {
            BergPatrol p = Seas.with(MIDDLE);
            Check.same("away by " + sharpness, p.look(MIDDLE, sharpness), 10000 * sharpness);
            Check.same("left by " + sharpness, p.parts(0, MIDDLE), Seas.ALL - 10000 * sharpness);
        }
    }

    private static void sharpnessNone() {
        Check.about("Promise 8: IllegalArgumentException: SHARPNESS is none");
        BergPatrol p = Seas.with(MIDDLE);
        int[] none = {-1, 101, Integer.MIN_VALUE, Integer.MAX_VALUE};
        for (int n : none) {
            Check.noArgument("sharpness " + n, () -> p.look(MIDDLE, n));
            Check.noArgument("sharpness " + n + " where nothing is", () -> p.look(0, n));
        }
        Check.same("parts stay", p.parts(0, MIDDLE), Seas.ALL);
    }

    private static void ofEachBerg() {
        Check.about("Terms 1: of each BERG's PARTS there");
        BergPatrol p = new BergPatrol();
        for (int b = 0; b < 10; b++) {
            p.tell(MIDDLE, 10 + b);
        }
        Check.same("bergs", p.count(1), 10);
        Check.same("away from all", p.look(MIDDLE, 30), 3000000);
        for (int b = 0; b < 10; b++) {
            Check.same("parts of " + b, p.parts(b, MIDDLE), 700000);
        }
        BergPatrol q = Seas.with(MIDDLE);
        q.step(1);
        q.look(MIDDLE, 100);
        Check.same("there alone", q.berg(0, 4), 500000);
    }

    private static void roundedUp() {
        Check.about("Terms 1: so many of a hundred, rounded up, are away");
        for (int parts = 1; parts <= 100; parts += 3) {
            for (int sharpness = 0; sharpness <= 100; sharpness++) {
                BergPatrol p = Seas.with(MIDDLE);
                Seas.leave(p, MIDDLE, parts);
                int due = parts * sharpness / 100 + (parts * sharpness % 100 == 0 ? 0 : 1);
                Check.same("of " + parts + " by " + sharpness, p.look(MIDDLE, sharpness), due);
                Check.same("left of " + parts + " by " + sharpness, p.parts(0, MIDDLE), parts - due);
            }
        }
        BergPatrol p = Seas.with(MIDDLE);
        p.look(MIDDLE, 99);
        p.look(MIDDLE, 71);
        p.look(MIDDLE, 93);
        p.look(MIDDLE, 50);
        Check.same("parts left", p.parts(0, MIDDLE), 101);
        Check.same("of 101 by 1", p.look(MIDDLE, 1), 2);
        BergPatrol two = new BergPatrol();
        two.tell(MIDDLE, 5);
        two.tell(MIDDLE, 6);
        Seas.leave(two, MIDDLE, 50);
        Check.same("of each, not of both together", two.look(MIDDLE, 1), 2);
    }

    private static void howManyAway() {
        Check.about("Promise 8: how many PARTS are away by it");
        BergPatrol p = new BergPatrol();
        Check.same("without bergs", p.look(MIDDLE, 100), 0);
        for (int b = 0; b < 10; b++) {
            p.tell(MIDDLE, 10 + b);
        }
        Check.same("where none may be", p.look(MIDDLE + 1, 100), 0);
        Check.same("by sharpness 0", p.look(MIDDLE, 0), 0);
        Check.same("all of ten", p.look(MIDDLE, 100), 10000000);
        Check.same("nothing is left", p.look(MIDDLE, 100), 0);
        p.land(MIDDLE, true);
        Check.same("on land", p.look(MIDDLE, 100), 0);
    }

    private static void goneByALook() {
        Check.about("Terms 1: (One that MAY BE nowhere by that is GONE.)");
        BergPatrol p = Seas.with(MIDDLE);
        p.step(1);
        int[] squares = {MIDDLE + 1, MIDDLE - 1, MIDDLE + 20, MIDDLE - 20, MIDDLE};
        for (int s : squares) {
            Check.same("not gone ahead of " + s, p.berg(0, 2), 0);
            p.look(s, 100);
        }
        Check.same("gone", p.berg(0, 2), 1);
        Check.same("size stays", p.berg(0, 0), 99);
        Check.same("age stays", p.berg(0, 1), 1);
        Check.same("none left", p.count(2), 0);
        BergPatrol q = Seas.with(MIDDLE);
        Seas.leave(q, MIDDLE, 1);
        Check.same("not gone with one part", q.berg(0, 2), 0);
        q.look(MIDDLE, 1);
        Check.same("gone without it", q.berg(0, 2), 1);
    }

    private static void notGoneByALook() {
        Check.about("Terms 1: one that still MAY BE somewhere is not GONE by a LOOK");
        BergPatrol p = Seas.with(MIDDLE, 0);
        p.look(MIDDLE, 100);
        Check.same("the first is gone", p.berg(0, 2), 1);
        Check.same("the second is not", p.berg(1, 2), 0);
        p.look(5, 100);
        Check.same("nor by a look elsewhere", p.berg(1, 2), 0);
        p.look(0, 99);
        Check.same("nor by one of 99", p.berg(1, 2), 0);
        p.look(0, 0);
        Check.same("nor by one of 0", p.berg(1, 2), 0);
    }

    private static void numbered() {
        Check.about("Terms 1: BERGS are numbered from 0 on");
        BergPatrol p = new BergPatrol();
        for (int b = 0; b < 10; b++) {
            Check.same("new", p.tell(b, 5), b);
            Check.same("bergs", p.count(1), b + 1);
        }
        BergPatrol q = Seas.with(0);
        q.look(0, 100);
        Check.same("a number is not given again", q.tell(0, 5), 1);
    }

    private static void atMostTen() {
        Check.about("Promise 6: UnsupportedOperationException: a new one is due, and there are 10");
        BergPatrol p = new BergPatrol();
        for (int b = 0; b < 10; b++) {
            p.tell(20 * b, 50);
        }
        Check.notSupported("where none may be", () -> p.tell(5, 50));
        Check.notSupported("where a smaller one is", () -> p.tell(180, 51));
        for (int b = 0; b < 10; b++) {
            p.look(20 * b, 100);
        }
        Check.same("all are gone", p.count(2), 0);
        Check.notSupported("those that are gone count", () -> p.tell(0, 1));
        Check.same("bergs", p.count(1), 10);
        Check.same("joined", p.count(7), 0);
        p.land(7, true);
        Check.noArgument("land is told ahead of it", () -> p.tell(7, 5));
        Check.noArgument("a wrong size, too", () -> p.tell(8, 0));
        Check.noIndex("no such square, too", () -> p.tell(280, 0));
    }

    private static void joinedThoughTen() {
        Check.about("Promise 6: with 10 BERGS a TELLING that is JOINED stands");
        BergPatrol p = new BergPatrol();
        for (int b = 0; b < 10; b++) {
            p.tell(20 * b, 50);
        }
        Check.same("the first", p.tell(0, 50), 0);
        Check.same("the tenth", p.tell(180, 1), 9);
        Check.same("size", p.berg(9, 0), 1);
        Check.same("joined", p.count(7), 2);
    }

    private static void sizes() {
        Check.about("Terms 1: SIZE (1 to 1000)");
        int[] sizes = {1, 2, 999, 1000};
        for (int size : sizes) {
            BergPatrol p = new BergPatrol();
            p.tell(MIDDLE, size);
            Check.same("size", p.berg(0, 0), size);
        }
    }

    private static void sizeNone() {
        Check.about("Promise 6: IllegalArgumentException: SIZE is none");
        BergPatrol p = new BergPatrol();
        p.tell(MIDDLE, 1000);
        int[] none = {0, -1, 1001, Integer.MIN_VALUE, Integer.MAX_VALUE};
        for (int n : none) {
            Check.noArgument("a new one of " + n, () -> p.tell(0, n));
            Check.noArgument("one to join of " + n, () -> p.tell(MIDDLE, n));
            Check.noIndex("no such square is told ahead of " + n, () -> p.tell(-1, n));
        }
        Check.same("bergs", p.count(1), 1);
        Check.same("joined", p.count(7), 0);
    }

    private static void onLand() {
        Check.about("Promise 6: IllegalArgumentException: the SQUARE is LAND");
        int[] ends = {0, 19, 260, 279};
        for (int s : ends) {
            BergPatrol p = new BergPatrol();
            p.land(s, true);
            Check.noArgument("tell on " + s, () -> p.tell(s, 5));
            p.land(s, false);
            Check.same("when it is none", p.tell(s, 5), 0);
        }
    }

    private static void goneIsNotJoined() {
        Check.about("Terms 2: of the BERGS that are not GONE");
        BergPatrol p = Seas.with(MIDDLE);
        p.look(MIDDLE, 100);
        Check.same("gone by a look", p.tell(MIDDLE, 50), 1);
        BergPatrol q = new BergPatrol();
        q.tell(MIDDLE, 1);
        q.step(1);
        Check.same("melted", q.tell(MIDDLE, 1), 1);
        BergPatrol r = Seas.with(0);
        r.water(0, -1, 0, 1);
        r.step(1);
        Check.same("out", r.tell(0, 1), 1);
        Check.same("the first one stays gone", r.berg(0, 2), 1);
        Check.same("none joined", p.count(7) + q.count(7) + r.count(7), 0);
    }

    private static void mayBeThere() {
        Check.about("Terms 2: that MAY BE there");
        for (int n = 7; n <= 8; n++) {
            BergPatrol p = Seas.with(MIDDLE);
            Seas.leave(p, MIDDLE, n);
            p.step(1);
            Check.same("one part beside is enough, none is not", p.tell(MIDDLE + 1, 50), n == 8 ? 0 : 1);
            Check.same("joined", p.count(7), n == 8 ? 1 : 0);
        }
        BergPatrol p = Seas.with(MIDDLE);
        p.step(1);
        Check.same("slantwise of it", p.tell(MIDDLE + 21, 50), 1);
        p.look(MIDDLE - 1, 100);
        Check.same("where a look took all", p.tell(MIDDLE - 1, 50), 2);
    }

    private static void atLeastThatSize() {
        Check.about("Terms 2: and have at least that SIZE");
        for (int size = 98; size <= 100; size++) {
            BergPatrol p = Seas.with(MIDDLE);
            p.step(1);
            Check.same("of 99, told as " + size, p.tell(MIDDLE, size), size <= 99 ? 0 : 1);
            Check.same("joined", p.count(7), size <= 99 ? 1 : 0);
        }
        BergPatrol p = new BergPatrol();
        p.tell(MIDDLE, 1);
        Check.same("the least size", p.tell(MIDDLE, 1), 0);
        Check.same("a greater one", p.tell(MIDDLE, 1000), 1);
        Check.same("the greatest size", p.tell(MIDDLE, 1000), 1);
    }

    private static void theMostParts() {
        Check.about("Terms 2: that with the most PARTS there");
        for (int more = 0; more < 3; more++) {
            oneMoreThanTheOthers(more);
        }
        BergPatrol p = new BergPatrol();
        p.tell(MIDDLE, 10);
        p.tell(MIDDLE, 20);
        p.step(1);
        p.tell(MIDDLE + 1, 5);
        p.step(1);
        Check.same("parts of 0", p.parts(0, MIDDLE + 1), 500000);
        Check.same("parts of 1", p.parts(1, MIDDLE + 1), 125000);
        Check.same("that with the most has not that size", p.tell(MIDDLE + 1, 15), 1);
    }

    /** Three bergs of which one has just one part more in a square than the two others. */
    private static void oneMoreThanTheOthers(int more) {
        BergPatrol p = new BergPatrol();
        int[] told = {MIDDLE, MIDDLE + 1, MIDDLE + 2};
        for (int b = 0; b < 3; b++) {
            p.tell(told[b], 50);
            Seas.leave(p, told[b], b == more ? 41 : 40);
            p.water(told[b], 1 - b, 0, 0);
        }
        p.step(1);
        for (int b = 0; b < 3; b++) {
            Check.same("parts of " + b, p.parts(b, MIDDLE + 1), b == more ? 21 : 20);
        }
        Check.same("just one more", p.tell(MIDDLE + 1, 5), more);
    }

    private static void theLeastNumber() {
        Check.about("Terms 2: of several the least number");
        BergPatrol p = new BergPatrol();
        for (int b = 0; b < 10; b++) {
            p.tell(MIDDLE, 10 + b);
        }
        Check.same("of all", p.tell(MIDDLE, 10), 0);
        Check.same("of those that have the size", p.tell(MIDDLE, 17), 7);
        p.look(MIDDLE, 100);
        Check.notSupported("all are gone", () -> p.tell(MIDDLE, 10));
    }

    private static void becomesSo() {
        Check.about("Terms 2: it is JOINED: its PARTS are 1000000 there and none elsewhere, its SIZE is that, AGE 0");
        BergPatrol p = Seas.with(0);
        p.water(0, -1, 0, 1);
        p.tell(1, 100);
        p.step(3);
        Check.same("joined", p.tell(2, 40), 1);
        for (int s = 0; s < Seas.SQUARES; s++) {
            Check.same("parts of " + s, p.parts(1, s), s == 2 ? Seas.ALL : 0);
        }
        Check.same("size", p.berg(1, 0), 40);
        Check.same("age", p.berg(1, 1), 0);
        Check.same("not gone", p.berg(1, 2), 0);
        Check.same("out", p.berg(1, 5), 0);
        Check.same("the other one's size", p.berg(0, 0), 100);
        Check.same("the other one is out", p.berg(0, 5), Seas.ALL);
    }

    private static void newLikewise() {
        Check.about("Terms 2: Without one it is a new BERG, likewise");
        BergPatrol p = new BergPatrol();
        p.step(5);
        Check.same("new", p.tell(279, 1000), 0);
        for (int s = 0; s < Seas.SQUARES; s++) {
            Check.same("parts of " + s, p.parts(0, s), s == 279 ? Seas.ALL : 0);
        }
        Check.same("size", p.berg(0, 0), 1000);
        Check.same("age", p.berg(0, 1), 0);
        Check.same("not gone", p.berg(0, 2), 0);
        Check.same("squares", p.berg(0, 3), 1);
        Check.same("all parts", p.berg(0, 4), Seas.ALL);
        Check.same("out", p.berg(0, 5), 0);
        Check.same("not joined", p.count(7), 0);
    }

    private static void partsOfNone() {
        Check.about("Promise 9: IndexOutOfBoundsException: there is no such BERG, SQUARE");
        BergPatrol p = Seas.with(0, 20);
        int[] none = {-1, 2, 10, Integer.MIN_VALUE, Integer.MAX_VALUE};
        for (int b : none) {
            Check.noIndex("berg " + b, () -> p.parts(b, 0));
            Check.noIndex("berg " + b + ", no such square", () -> p.parts(b, 280));
        }
        for (int s : Seas.NO_SQUARES) {
            Check.noIndex("square " + s, () -> p.parts(1, s));
        }
        Check.same("the last berg", p.parts(1, 20), Seas.ALL);
        Check.same("the last square", p.parts(1, 279), 0);
        p.look(0, 100);
        Check.same("of one that is gone", p.parts(0, 0), 0);
    }

    private static void bergOfNone() {
        Check.about("Promise 10: IndexOutOfBoundsException: there is no such BERG, ahead of NoSuchElementException");
        BergPatrol p = Seas.with(0, 20);
        int[] none = {-1, 2, 10, Integer.MIN_VALUE, Integer.MAX_VALUE};
        for (int b : none) {
            Check.noIndex("berg " + b, () -> p.berg(b, 0));
            Check.noIndex("berg " + b + ", another what", () -> p.berg(b, 6));
        }
    }

    private static void bergNoSuchWhat() {
        Check.about("Promise 10: NoSuchElementException: another what");
        BergPatrol p = Seas.with(0);
        int[] none = {-1, 6, Integer.MIN_VALUE, Integer.MAX_VALUE};
        for (int what : none) {
            Check.noElement("what " + what, () -> p.berg(0, what));
        }
    }

    private static void bergSize() {
        Check.about("Promise 10: 0 SIZE (0 or below if it melted away)");
        BergPatrol p = new BergPatrol();
        Seas.warmAll(p, 50);
        p.tell(0, 1);
        p.tell(40, 50);
        p.tell(80, 51);
        p.step(1);
        Check.same("below 0", p.berg(0, 0), -49);
        Check.same("0", p.berg(1, 0), 0);
        Check.same("above 0", p.berg(2, 0), 1);
        p.step(1);
        Check.same("no less behind that", p.berg(0, 0), -49);
        Check.same("below 0", p.berg(2, 0), -49);
    }

    private static void bergAge() {
        Check.about("Promise 10: 1 AGE: steps since it was told last");
        BergPatrol p = new BergPatrol();
        p.step(3);
        p.tell(0, 100);
        Check.same("told now", p.berg(0, 1), 0);
        p.step(50);
        Check.same("behind 50", p.berg(0, 1), 50);
        p.tell(0, 50);
        Check.same("told again", p.berg(0, 1), 0);
        p.step(1);
        Check.same("behind 1", p.berg(0, 1), 1);
    }

    private static void bergGone() {
        Check.about("Promise 10: 2 1 if it is GONE, else 0");
        BergPatrol p = Seas.with(0, 40);
        Check.same("not gone", p.berg(0, 2), 0);
        p.look(0, 100);
        Check.same("gone", p.berg(0, 2), 1);
        Check.same("the other one", p.berg(1, 2), 0);
    }

    private static void bergSquares() {
        Check.about("Promise 10: 3 in how many SQUARES it MAY BE");
        BergPatrol p = Seas.with(MIDDLE);
        Check.same("one", p.berg(0, 3), 1);
        p.step(1);
        Check.same("five", p.berg(0, 3), 5);
        p.look(MIDDLE, 100);
        Check.same("four", p.berg(0, 3), 4);
        BergPatrol q = Seas.with(MIDDLE);
        Seas.leave(q, MIDDLE, 1);
        Check.same("with a single part", q.berg(0, 3), 1);
        q.look(MIDDLE, 100);
        Check.same("none", q.berg(0, 3), 0);
        BergPatrol all = new BergPatrol();
        Seas.warmAll(all, 0);
        all.tell(MIDDLE, 1);
        all.step(50);
        int squares = 0;
        for (int s = 0; s < 200; s++) {
            squares += all.parts(0, s) > 0 ? 1 : 0;
        }
        Check.same("the lowest ten rows", squares, 200);
    }

    private static void bergParts() {
        Check.about("Promise 10: 4 all its PARTS");
        BergPatrol p = Seas.with(0);
        Check.same("all", p.berg(0, 4), Seas.ALL);
        p.step(10);
        Check.same("all, spread", p.berg(0, 4), Seas.ALL);
        int away = p.look(1, 50);
        Check.same("without those that a look took", p.berg(0, 4), Seas.ALL - away);
        p.tell(0, 5);
        p.look(0, 100);
        Check.same("none", p.berg(0, 4), 0);
    }

    private static void bergOut() {
        Check.about("Promise 10: 5 PARTS that were OUT since it was told last");
        BergPatrol p = Seas.with(1);
        p.water(0, -1, 0, 1);
        p.step(1);
        Check.same("none yet", p.berg(0, 5), 0);
        p.step(1);
        Check.same("an eighth", p.berg(0, 5), 125000);
        int more = p.parts(0, 0);
        p.step(1);
        Check.same("and more", p.berg(0, 5), 125000 + more);
        Check.same("together with the rest all", p.berg(0, 4), Seas.ALL - 125000 - more);
        p.look(1, 100);
        Check.same("those that a look took are not out", p.berg(0, 5), 125000 + more);
        p.tell(2, 5);
        Check.same("since it was told last", p.berg(0, 5), 0);
        p.tell(0, 5);
        p.step(1);
        Check.same("all of another one", p.berg(1, 5), Seas.ALL);
        p.step(1);
        Check.same("it stays so", p.berg(1, 5), Seas.ALL);
    }
}
