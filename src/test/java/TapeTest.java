/** Promises 2 feed, 3 end, 19 taped. */
public final class TapeTest {
    public static void main(String[] args) {
        feeds();
        fillsUp();
        ends();
        Check.end();
    }

    private static void feeds() {
        BergPatrol p = new BergPatrol();
        Check.same("taped ahead of any feed", p.taped(0), BergPatrol.NONE);
        Check.same("feed", p.feed(0x01020304, 0xfffefdfc, 0x80000000, 0x0000007f, 0x41424344), 20);
        int[] due = {1, 2, 3, 4, 255, 254, 253, 252, 128, 0, 0, 0, 0, 0, 0, 127, 65, 66, 67, 68};
        for (int i = 0; i < 20; i++) {
            Check.same("taped " + i, p.taped(i), due[i]);
        }
        Check.same("taped behind", p.taped(20), BergPatrol.NONE);
        Check.same("taped ahead", p.taped(-1), BergPatrol.NONE);
        Check.same("taped far behind", p.taped(Integer.MAX_VALUE), BergPatrol.NONE);
        Check.same("taped far ahead", p.taped(Integer.MIN_VALUE), BergPatrol.NONE);
        Check.same("feed behind", p.feed(0x61000000, 0, 0, 0, 0x62), 40);
        Check.same("taped 19 stays", p.taped(19), 68);
        Check.same("taped 20", p.taped(20), 97);
        Check.same("taped 39", p.taped(39), 98);
    }

    private static void fillsUp() {
        BergPatrol p = new BergPatrol();
        for (int i = 1; i <= 20; i++) {
            Check.same("feed " + i, p.feed(i, i, i, i, i), 20 * i);
        }
        Check.same("feed beyond 400", p.feed(9, 9, 9, 9, 9), BergPatrol.NONE);
        Check.same("bytes", p.count(6), 400);
        Check.same("taped 399", p.taped(399), 20);
        Check.same("taped 400", p.taped(400), BergPatrol.NONE);
        Check.same("end 381", p.end(381), true);
        Check.same("feed to 401", p.feed(9, 9, 9, 9, 9), BergPatrol.NONE);
        Check.same("bytes", p.count(6), 381);
        Check.same("end 380", p.end(380), true);
        Check.same("feed to 400", p.feed(7, 7, 7, 7, 7), 400);
        Check.same("taped 383", p.taped(383), 7);
        Check.same("taped 379", p.taped(379), 19);
    }

    private static void ends() {
        BergPatrol p = new BergPatrol();
        Check.same("end 0 of none", p.end(0), true);
        Check.same("end 1 of none", p.end(1), false);
        Check.same("end below 0", p.end(-1), false);
        p.feed(0x61626364, 0x65666768, 0, 0, 0);
        Check.same("end far below 0", p.end(Integer.MIN_VALUE), false);
        Check.same("end 21", p.end(21), false);
        Check.same("end max", p.end(Integer.MAX_VALUE), false);
        Check.same("bytes stay", p.count(6), 20);
        Check.same("end 20", p.end(20), true);
        Check.same("bytes stay", p.count(6), 20);
        Check.same("end 3", p.end(3), true);
        Check.same("bytes", p.count(6), 3);
        Check.same("taped 2", p.taped(2), 'c');
        Check.same("taped 3 is away", p.taped(3), BergPatrol.NONE);
        Check.same("end 4 does not bring it back", p.end(4), false);
        Check.same("end -1", p.end(-1), false);
        Check.same("bytes stay", p.count(6), 3);
        Check.same("feed behind the end", p.feed(0x78000000, 0, 0, 0, 0), 23);
        Check.same("taped 3", p.taped(3), 'x');
        Check.same("end 0", p.end(0), true);
        Check.same("taped 0", p.taped(0), BergPatrol.NONE);
    }
}
