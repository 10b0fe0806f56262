/** Promises 13 warn, 14 read, 15 fault, 16 cancel, 17 force, 18 write. */
public final class WarningTest {
    private static final String SQUARE = "ring 0 0,4 0,4 4,0 4 end";

    public static void main(String[] args) {
        warns();
        warnsUpToForty();
        reads();
        readsUpToForty();
        finds();
        findsInNumbers();
        findsInWords();
        findsInCorners();
        cancels();
        isInForce();
        writes();
        refusesWrongNumbers();
        Check.end();
    }

    private static void warns() {
        BergPatrol p = new BergPatrol();
        Check.same("warn without bergs", p.warn(), BergPatrol.NONE);
        Check.same("no warning", p.count(3), 0);
        p.tell(105, 100);
        p.step(3);
        Check.same("warn", p.warn(), 0);
        Check.same("in force from now on", p.force(0, 3), true);
        Check.same("not ahead", p.force(0, 2), false);
        int corners = p.limit();
        p.write(0);
        String text = Tapes.all(p);
        Check.same("all corners", text.split(",").length, corners);
        Check.same("written", text, "ring 2 5,5 2,6 2,9 5,9 6,6 9,5 9,2 6 end");
        p.look(105, 100);
        p.step(2);
        p.write(0);
        Check.same("it stays when bergs go on", Tapes.all(p), text);
        Check.same("another", p.warn(), 1);
        p.tell(0, 1);
        p.step(50);
        p.step(50);
        Check.same("all melted", p.count(2), 0);
        Check.same("warn when all are gone", p.warn(), BergPatrol.NONE);
        Check.same("warnings", p.count(3), 2);
    }

    private static void warnsUpToForty() {
        BergPatrol p = new BergPatrol();
        p.tell(105, 100);
        for (int i = 0; i < 40; i++) {
            Check.same("warn " + i, p.warn(), i);
        }
        Check.same("the 41st", p.warn(), BergPatrol.NONE);
        p.cancel(3);
        Check.same("cancelled ones count", p.warn(), BergPatrol.NONE);
        Check.same("warnings", p.count(3), 40);
        Check.same("in force", p.count(4), 39);
    }

    private static void reads() {
        BergPatrol p = new BergPatrol();
        p.step(7);
        Check.same("read", Tapes.read(p, SQUARE), 0);
        Check.same("told now", p.force(0, 7), true);
        Check.same("not ahead", p.force(0, 6), false);
        Check.same("the tape is used up", p.count(6), 0);
        Check.same("taped", p.taped(0), BergPatrol.NONE);
        Check.same("blanks everywhere", Tapes.read(p, "   ring   0  0 ,  4 0,4   4  ,0 4   end   "), 1);
        Check.same("no blanks", Tapes.read(p, "ring0 0,4 0,4 4,0 4end"), 2);
        Check.same("two digits", Tapes.read(p, "ring 00 00,04 00,04 04,00 04 end"), 3);
        Check.same("the bounds", Tapes.read(p, "ring 20 14,0 0,20 0 end"), 4);
        Check.same("40 corners", Tapes.read(p, Tapes.ring(40)), 5);
        Check.same("3 corners, all the same", Tapes.read(p, "ring 1 1,1 1,1 1 end"), 6);
        for (int w = 1; w <= 3; w++) {
            p.write(w);
            Check.same("written " + w, Tapes.all(p), SQUARE);
        }
        Tapes.put(p, "x");
        Check.noArgument("a wrong text", p::read);
        Check.same("uses the tape up, too", p.count(6), 0);
        Check.same("and makes no warning", p.count(3), 7);
    }

    private static void readsUpToForty() {
        BergPatrol p = new BergPatrol();
        for (int i = 0; i < 40; i++) {
            Check.same("read " + i, Tapes.read(p, SQUARE), i);
        }
        Tapes.put(p, SQUARE);
        Check.notSupported("the 41st", p::read);
        Check.same("uses the tape up", p.count(6), 0);
        Check.same("without a wrong byte", p.fault(), BergPatrol.NONE);
        Tapes.put(p, "ring 0 0,4 0 end");
        Check.noArgument("a wrong text goes ahead", p::read);
        Check.same("its fault", p.fault(), 13);
        Tapes.put(p, SQUARE);
        Check.notSupported("the 41st again", p::read);
        Check.same("no fault of the latest", p.fault(), BergPatrol.NONE);
        Check.same("warnings", p.count(3), 40);
    }

    private static void finds() {
        BergPatrol p = new BergPatrol();
        Check.same("ahead of any", p.fault(), BergPatrol.NONE);
        Check.same("the empty text", Tapes.fault(p, ""), 0);
        Check.same("blanks alone", Tapes.fault(p, "   "), 3);
        Check.same("no fault", Tapes.fault(p, SQUARE), BergPatrol.NONE);
        Check.same("again one", Tapes.fault(p, "."), 0);
        p.tell(5, 5);
        p.warn();
        p.step(1);
        Check.same("it stays", p.fault(), 0);
        String text = SQUARE + " ";
        for (int n = 0; n < 24; n++) {
            // A word that has just begun is none; else the text's length.
            int due = n < 4 ? 0 : n > 21 ? 21 : n;
            Check.same("the first " + n, Tapes.fault(p, text.substring(0, n)), due);
        }
        Check.same("a blank behind", Tapes.fault(p, text), BergPatrol.NONE);
        Check.same("more behind", Tapes.fault(p, text + " x"), 26);
        Check.same("a number behind", Tapes.fault(p, SQUARE + "1"), 24);
        Check.same("another text behind", Tapes.fault(p, text + SQUARE), 25);
        Check.same("a byte 0 behind", Tapes.fault(p, SQUARE + "\0"), 24);
        Check.same("a comma behind", Tapes.fault(p, SQUARE + " ,"), 25);
    }

    private static void findsInNumbers() {
        BergPatrol p = new BergPatrol();
        Check.same("x 21", Tapes.fault(p, "ring 0 0,21 0,1 1 end"), 9);
        Check.same("y 15", Tapes.fault(p, "ring 0 0,20 15,1 1 end"), 12);
        Check.same("x 20, y 14", Tapes.fault(p, "ring 0 0,20 14,1 1 end"), BergPatrol.NONE);
        Check.same("y 20", Tapes.fault(p, "ring 0 20,1 1,2 2 end"), 7);
        Check.same("99", Tapes.fault(p, "ring 99 0"), 5);
        Check.same("three digits", Tapes.fault(p, "ring 0 0,1 1,001 2 end"), 13);
        Check.same("three digits of y", Tapes.fault(p, "ring 0 000"), 7);
        Check.same("very many digits", Tapes.fault(p, "ring 0 00000000000000000000000000000000001"), 7);
        Check.same("a sign", Tapes.fault(p, "ring -1 0"), 5);
        Check.same("a plus", Tapes.fault(p, "ring 0 +1"), 7);
        Check.same("a number too few", Tapes.fault(p, "ring 0,1 1"), 6);
        Check.same("a number too many", Tapes.fault(p, "ring 0 0 1,1 1"), 9);
        Check.same("a letter at once behind", Tapes.fault(p, "ring 1a 0"), 6);
        Check.same("more must come", Tapes.fault(p, "ring 1  "), 8);
        Check.same("a slash", Tapes.fault(p, "ring 1 /"), 7);
        Check.same("a colon", Tapes.fault(p, "ring 1 :"), 7);
    }

    private static void findsInWords() {
        BergPatrol p = new BergPatrol();
        Check.same("longer", Tapes.fault(p, "  rings 0 0"), 2);
        Check.same("shorter", Tapes.fault(p, " rin 0 0"), 1);
        Check.same("capital", Tapes.fault(p, "Ring 0 0"), 0);
        Check.same("capital at its end", Tapes.fault(p, "rinG 0 0"), 0);
        Check.same("capital behind it", Tapes.fault(p, "ringA"), 4);
        Check.same("another word of four", Tapes.fault(p, "rang 0 0"), 0);
        Check.same("another first letter", Tapes.fault(p, "xing 0 0"), 0);
        Check.same("another last letter", Tapes.fault(p, "ring 0 0,4 0,4 4 enz"), 17);
        Check.same("up to z", Tapes.fault(p, "ring 0 0,4 0,4 4 endz"), 17);
        Check.same("from a on", Tapes.fault(p, "ring 0 0,4 0,4 4 aend"), 17);
        Check.same("a letter more", Tapes.fault(p, "ringa 0 0"), 0);
        Check.same("end first", Tapes.fault(p, "end"), 0);
        Check.same("no ring", Tapes.fault(p, "0 0,4 0,4 4 end"), 0);
        Check.same("ring twice", Tapes.fault(p, "ring ring 0 0"), 5);
        Check.same("joined words", Tapes.fault(p, "ring 0 0,4 0,4 4 endend"), 17);
        Check.same("ring for end", Tapes.fault(p, "ring 0 0,4 0,4 4 ring"), 17);
        Check.same("en d", Tapes.fault(p, "ring 0 0,4 0,4 4 en d"), 17);
        Check.same("e", Tapes.fault(p, "ring 0 0,4 0,4 4 e"), 17);
        Check.same("END", Tapes.fault(p, "ring 0 0,4 0,4 4 END"), 17);
        Check.same("a tab", Tapes.fault(p, "ring\t0 0,4 0,4 4 end"), 4);
        Check.same("a line's end behind", Tapes.fault(p, "ring 0 0,4 0,4 4 end\n"), 20);
        Check.same("a high byte", Tapes.fault(p, "ring " + (char) 255 + " 0"), 5);
        Check.same("a blank's number and 128", Tapes.fault(p, "ring" + (char) 160 + "0 0"), 4);
        Check.same("a back quote", Tapes.fault(p, "ring`"), 4);
        Check.same("a brace", Tapes.fault(p, "ring{"), 4);
    }

    private static void findsInCorners() {
        BergPatrol p = new BergPatrol();
        Check.same("end behind none", Tapes.fault(p, "ring end"), 5);
        Check.same("end behind one", Tapes.fault(p, "ring 0 0 end"), 9);
        Check.same("end behind two", Tapes.fault(p, "ring 0 0,1 1 end"), 13);
        Check.same("nothing behind two", Tapes.fault(p, "ring 0 0,1 1 "), 13);
        Check.same("a comma first", Tapes.fault(p, "ring ,0 0"), 5);
        Check.same("two commas", Tapes.fault(p, "ring 0 0,,1 1"), 9);
        Check.same("a comma ahead of end", Tapes.fault(p, "ring 0 0,1 1,2 2,end"), 17);
        Check.same("a comma at last", Tapes.fault(p, "ring 0 0,1 1,2 2,"), 17);
        Check.same("no comma", Tapes.fault(p, "ring 0 0 1 1"), 9);
        Check.same("a semicolon", Tapes.fault(p, "ring 0 0;1 1"), 8);
        Check.same("a comma within", Tapes.fault(p, "ring 0,0"), 6);
        Check.same("40 corners", Tapes.fault(p, Tapes.ring(40)), BergPatrol.NONE);
        Check.same("41 corners", Tapes.fault(p, Tapes.ring(41)), 164);
        Check.same("a comma behind the 40th", Tapes.fault(p, Tapes.ring(40).replace(" end", "  ,")), 166);
        Check.same("a number behind the 40th", Tapes.fault(p, Tapes.ring(40).replace(" end", " 1")), 165);
        Check.same("nothing behind the 40th", Tapes.fault(p, Tapes.ring(40).replace(" end", "")), 164);
        Check.same("warnings by these", p.count(3), 1);
    }

    private static void cancels() {
        BergPatrol p = new BergPatrol();
        Tapes.read(p, SQUARE);
        Tapes.read(p, SQUARE);
        p.step(2);
        Check.same("cancel", p.cancel(1), true);
        p.step(2);
        Check.same("cancel again", p.cancel(1), false);
        Check.same("in force up to the first", p.force(1, 1), true);
        Check.same("not at the first", p.force(1, 2), false);
        Check.same("nor behind", p.force(1, 3), false);
        Check.same("the other one", p.force(0, 4), true);
        Check.same("in force now", p.count(4), 1);
        Check.same("cancel", p.cancel(0), true);
        Check.same("in force at 3", p.force(0, 3), true);
        Check.same("not at 4", p.force(0, 4), false);
        Check.same("in force now", p.count(4), 0);
        Check.same("warnings", p.count(3), 2);
    }

    private static void isInForce() {
        BergPatrol p = new BergPatrol();
        p.step(10);
        Tapes.read(p, SQUARE);
        Check.same("at 9", p.force(0, 9), false);
        Check.same("at 10", p.force(0, 10), true);
        Check.same("in steps to come", p.force(0, Integer.MAX_VALUE), true);
        Check.same("below 0", p.force(0, -1), false);
        Check.same("far below 0", p.force(0, Integer.MIN_VALUE), false);
        Check.same("cancelled at once", p.cancel(0), true);
        Check.same("never in force", p.force(0, 10), false);
        Check.same("never in force", p.force(0, 9), false);
        BergPatrol q = new BergPatrol();
        Tapes.read(q, SQUARE);
        q.cancel(0);
        Check.same("told and cancelled at 0", q.force(0, 0), false);
        Check.same("in steps to come", q.force(0, Integer.MAX_VALUE), false);
    }

    private static void writes() {
        BergPatrol p = new BergPatrol();
        Tapes.read(p, "ring 20 14,0 9,10 0,09 01 end");
        Tapes.read(p, Tapes.ring(40));
        Tapes.put(p, "what the tape had, which is longer than the text that comes");
        Check.same("write", p.write(0), 27);
        Check.same("written", Tapes.all(p), "ring 20 14,0 9,10 0,9 1 end");
        Check.same("bytes", p.count(6), 27);
        Check.same("write 40 corners", p.write(1), 168);
        Check.same("written", Tapes.all(p), Tapes.ring(40));
        Check.same("what is written is read", p.read(), 2);
        p.cancel(0);
        Check.same("a cancelled one is written", p.write(0), 27);
        StringBuilder longest = new StringBuilder("ring 20 14");
        for (int i = 1; i < 40; i++) {
            longest.append(",20 14");
        }
        longest.append(" end");
        Tapes.read(p, longest.toString());
        Check.same("the longest", p.write(3), 248);
        Check.same("written", Tapes.all(p), longest.toString());
        Check.same("fed behind it", p.feed(0, 0, 0, 0, 0), 268);
    }

    private static void refusesWrongNumbers() {
        BergPatrol p = new BergPatrol();
        Tapes.read(p, SQUARE);
        Tapes.put(p, "abc");
        int[] wrong = {-1, 1, 40, Integer.MIN_VALUE, Integer.MAX_VALUE};
        for (int w : wrong) {
            Check.noIndex("cancel " + w, () -> p.cancel(w));
            Check.noIndex("force " + w, () -> p.force(w, 0));
            Check.noIndex("write " + w, () -> p.write(w));
        }
        Check.same("the tape stays", Tapes.all(p), "abc");
        Check.same("in force", p.force(0, 0), true);
    }
}
