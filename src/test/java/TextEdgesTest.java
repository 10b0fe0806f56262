/** The edges of a text (Terms 3), and of promises 14 read, 15 fault: a test for each sentence. */
public final class TextEdgesTest {
    private static final int NONE = BergPatrol.NONE;
    private static final String PLAIN = "ring 0 0,4 0,4 4 end";

    public static void main(String[] args) {
        usesTheTapeUp();
        becomesAWarning();
        wrongText();
        atMostForty();
        wrongAheadOfForty();
        aheadOfAny();
        ofTheLatest();
        xInItsBounds();
        yInItsBounds();
        oneOrTwoDigits();
        threeToForty();
        commaBehindTheFortieth();
        endBehindFewer();
        asLongAsAToZ();
        noSuchWord();
        blanks();
        onlyBlanks();
        firstThing();
        moreMustCome();
        nothingBehind();
        everyByteInEveryPlace();
        longTexts();
        Check.end();
    }

    private static int fault(String text) {
        return Tapes.fault(new BergPatrol(), text);
    }

    private static void usesTheTapeUp() {
        Check.about("Promise 14: Uses the TAPE up");
        BergPatrol p = new BergPatrol();
        Tapes.read(p, PLAIN);
        Check.same("by a right text", p.count(6), 0);
        Tapes.put(p, "ring 0 0");
        Check.noArgument("a wrong one", p::read);
        Check.same("by a wrong one", p.count(6), 0);
        Check.same("byte 0", p.taped(0), NONE);
        Check.noArgument("then it is empty", p::read);
        Check.same("the empty text lacks all", p.fault(), 0);
    }

    private static void becomesAWarning() {
        Check.about("Promise 14: a text becomes a WARNING, told NOW: its number");
        BergPatrol p = Seas.with(0);
        p.step(5);
        p.warn();
        Check.same("behind one of the limit", Tapes.read(p, PLAIN), 1);
        Check.same("in force now", p.force(1, 5), true);
        Check.same("not ahead", p.force(1, 4), false);
        Check.same("warnings", p.count(3), 2);
        p.write(1);
        Check.same("its corners", Tapes.all(p), PLAIN);
    }

    private static void wrongText() {
        Check.about("Promise 14: IllegalArgumentException: the text is wrong");
        String[] wrong = {"", " ", "ring", "end", "ring end", "ring 0 0,1 1 end", PLAIN + "x", "0 0,4 0,4 4", "\0"};
        for (String text : wrong) {
            BergPatrol p = new BergPatrol();
            Tapes.put(p, text);
            Check.noArgument("read <" + text + ">", p::read);
            Check.same("no warning by <" + text + ">", p.count(3), 0);
        }
    }

    private static BergPatrol full() {
        BergPatrol p = Seas.with(0);
        for (int w = 0; w < 39; w++) {
            p.warn();
        }
        return p;
    }

    private static void atMostForty() {
        Check.about("Promise 14: UnsupportedOperationException: there are 40");
        BergPatrol p = full();
        Check.same("the fortieth", Tapes.read(p, PLAIN), 39);
        Tapes.put(p, PLAIN);
        Check.notSupported("the next one", p::read);
        Check.same("the tape is used up", p.count(6), 0);
        Check.same("warnings", p.count(3), 40);
        p.cancel(0);
        Tapes.put(p, PLAIN);
        Check.notSupported("cancelled ones count", p::read);
    }

    private static void wrongAheadOfForty() {
        Check.about("Promise 14: IllegalArgumentException is told ahead of UnsupportedOperationException");
        BergPatrol p = full();
        p.warn();
        Tapes.put(p, "ring 0 0,1 1 end");
        Check.noArgument("a wrong text with 40", p::read);
        Check.same("its first wrong byte", p.fault(), 13);
        Tapes.put(p, PLAIN);
        Check.notSupported("a right one with 40", p::read);
        Check.same("has no wrong byte", p.fault(), NONE);
    }

    private static void aheadOfAny() {
        Check.about("Promise 15: NONE ahead of any");
        BergPatrol p = new BergPatrol();
        Check.same("of a new object", p.fault(), NONE);
        Tapes.put(p, "x");
        Check.same("ahead of read()", p.fault(), NONE);
    }

    private static void ofTheLatest() {
        Check.about("Promise 15: The first wrong byte of the latest read(); NONE without one");
        BergPatrol p = new BergPatrol();
        Check.same("a wrong one", Tapes.fault(p, "ring x"), 5);
        Check.same("asked again", p.fault(), 5);
        Check.same("another wrong one", Tapes.fault(p, "x"), 0);
        Check.same("a right one", Tapes.fault(p, PLAIN), NONE);
        Check.same("again a wrong one", Tapes.fault(p, "ring 0 0 0"), 9);
        p.tell(0, 5);
        p.warn();
        p.write(0);
        p.step(1);
        p.feed(0, 0, 0, 0, 0);
        Check.same("other calls leave it", p.fault(), 9);
    }

    private static void xInItsBounds() {
        Check.about("Terms 3: x (0 to 20)");
        for (int x = 0; x <= 99; x++) {
            Check.same("first, " + x, fault("ring " + x + " 0,4 0,4 4 end"), x <= 20 ? NONE : 5);
            Check.same("last, " + x, fault("ring 0 0,4 0," + x + " 4 end"), x <= 20 ? NONE : 13);
        }
    }

    private static void yInItsBounds() {
        Check.about("Terms 3: y (0 to 14)");
        for (int y = 0; y <= 99; y++) {
            Check.same("first, " + y, fault("ring 0 " + y + ",4 0,4 4 end"), y <= 14 ? NONE : 7);
            Check.same("last, " + y, fault("ring 0 0,4 0,4 " + y + " end"), y <= 14 ? NONE : 15);
        }
    }

    private static void oneOrTwoDigits() {
        Check.about("Terms 3: A NUMBER: 1 or 2 digits; wrong is a NUMBER of more digits");
        String[] digits = {"0", "7", "9", "00", "07", "09", "10", "14"};
        for (String d : digits) {
            Check.same("x " + d, fault("ring 0 0," + d + " 0,4 4 end"), NONE);
            Check.same("y " + d, fault("ring 0 0,4 " + d + ",4 4 end"), NONE);
        }
        String[] more = {"000", "001", "010", "100", "0000", "0".repeat(60), "1".repeat(60), "4294967296", "4294967297"};
        for (String d : more) {
            Check.same("x " + d, fault("ring 0 0," + d + " 0,4 4 end"), 9);
            Check.same("y " + d, fault("ring 0 0,4 " + d + ",4 4 end"), 11);
            Check.same("x " + d + " at last", fault("ring 0 0," + d), 9);
        }
    }

    private static void threeToForty() {
        Check.about("Terms 3: 3 to 40 of them");
        for (int n = 1; n <= 45; n++) {
            int end = 5 + 4 * n;
            int due = n < 3 ? end : n <= 40 ? NONE : 4 + 4 * 40;
            Check.same(n + " corners", fault(Tapes.ring(n)), due);
        }
    }

    private static void commaBehindTheFortieth() {
        Check.about("Terms 3: wrong is a , behind the 40th corner");
        String forty = Tapes.ring(40).replace(" end", "");
        Check.same("at once", fault(forty + ","), 164);
        Check.same("behind blanks", fault(forty + "   ,0 0 end"), 167);
        Check.same("a whole corner", fault(forty + ",0 0 end"), 164);
        Check.same("behind the 39th it stands", fault(Tapes.ring(39).replace(" end", ",0 0 end")), NONE);
        Check.same("end behind the 40th", fault(forty + "end"), NONE);
        Check.same("nothing behind the 40th", fault(forty), 164);
    }

    private static void endBehindFewer() {
        Check.about("Terms 3: wrong is end behind fewer than 3");
        Check.same("behind none", fault("ring end"), 5);
        Check.same("behind one", fault("ring 0 0 end"), 9);
        Check.same("behind two", fault("ring 0 0,1 1   end"), 15);
        Check.same("behind two, at once", fault("ring 0 0,1 1end"), 12);
        Check.same("behind three", fault("ring 0 0,1 1,2 2 end"), NONE);
        Check.same("behind half a corner", fault("ring 0 0,1 1,2 end"), 15);
        Check.same("behind a comma", fault("ring 0 0,1 1,2 2, end"), 18);
    }

    private static void asLongAsAToZ() {
        Check.about("Terms 3: Words are as long as a to z go on");
        Check.same("a letter more", fault("ringa 0 0,4 0,4 4 end"), 0);
        Check.same("z more", fault("ringz 0 0,4 0,4 4 end"), 0);
        Check.same("two words in one", fault("ringring 0 0,4 0,4 4 end"), 0);
        Check.same("ringend", fault("ringend"), 0);
        Check.same("a letter more than end", fault("ring 0 0,4 0,4 4 enda"), 17);
        Check.same("a digit ends a word", fault("ring0 0,4 0,4 4 end"), NONE);
        Check.same("a word ends a number", fault("ring 0 0,4 0,4 4end"), NONE);
        Check.same("a sign ahead of a", fault("ring`0 0,4 0,4 4 end"), 4);
        Check.same("a sign behind z", fault("ring{0 0,4 0,4 4 end"), 4);
        Check.same("a capital ends a word", fault("ringA 0 0,4 0,4 4 end"), 4);
        Check.same("a capital behind end", fault(PLAIN + "Z"), 20);
    }

    private static void noSuchWord() {
        Check.about("Terms 3: wrong is a word that is none");
        String[] words = {"r", "ri", "rin", "ing", "rang", "rink", "e", "en", "nd", "and", "enc", "a", "zzzz", "z".repeat(99)};
        for (String word : words) {
            Check.same("for ring, " + word, fault(" " + word + " 0 0,4 0,4 4 end"), 1);
            Check.same("for end, " + word, fault("ring 0 0,4 0,4 4  " + word), 18);
            Check.same("for a number, " + word, fault("ring 0  " + word), 8);
            Check.same("alone, " + word, fault(word), 0);
        }
        Check.same("end for ring", fault("end 0 0,4 0,4 4 end"), 0);
        Check.same("ring for end", fault("ring 0 0,4 0,4 4 ring"), 17);
        Check.same("ring twice", fault("ring ring"), 5);
        Check.same("capitals", fault("RING 0 0,4 0,4 4 END"), 0);
    }

    private static void blanks() {
        Check.about("Terms 3: between all there may be blanks (32), also ahead and behind");
        String[] things = {"ring", "0", "0", ",", "4", "0", ",", "4", "4", "end"};
        for (int k = 0; k <= things.length; k++) {
            StringBuilder text = new StringBuilder();
            for (int i = 0; i < things.length; i++) {
                boolean needed = i == 2 || i == 5 || i == 8;
                text.append(i == k ? "     " : needed ? " " : "").append(things[i]);
            }
            Check.same("five ahead of thing " + k, fault(text + (k == things.length ? "     " : "")), NONE);
        }
        Check.same("everywhere", fault("  " + String.join("  ", things) + "  "), NONE);
        Check.same("within ring", fault("ri ng 0 0,4 0,4 4 end"), 0);
        Check.same("within end", fault("ring 0 0,4 0,4 4 e nd"), 17);
        Check.same("within a number", fault("ring 1 0 0,4 0,4 4 end"), 9);
        Check.same("none between two numbers", fault("ring 00,4 0,4 4 end"), 7);
    }

    private static void onlyBlanks() {
        Check.about("Terms 3: blanks (32) are no other bytes");
        int[] others = {0, 9, 10, 11, 12, 13, 31, 33, 95, 127, 128, 160, 255};
        for (int b : others) {
            Check.same("ahead, " + b, fault((char) b + PLAIN), 0);
            Check.same("between, " + b, fault("ring" + (char) b + PLAIN.substring(5)), 4);
            Check.same("behind, " + b, fault(PLAIN + (char) b), 20);
        }
    }

    private static void firstThing() {
        Check.about("Terms 3: The first wrong byte: the begin of the first thing that cannot stand there");
        Check.same("of two wrong things the first", fault("ring 0 99,99 0 END"), 7);
        Check.same("behind blanks", fault("ring 0 0   0"), 11);
        Check.same("a number's begin, not where it goes wrong", fault("ring 0 0,4 0,4 15 end"), 15);
        Check.same("a word's begin, not where it goes wrong", fault("ring 0 0,4 0,4 4 enx"), 17);
        Check.same("a comma for x", fault("ring , 0"), 5);
        Check.same("a comma for y", fault("ring 0,0"), 6);
        Check.same("a number for ring", fault("0"), 0);
        Check.same("a number for a comma", fault("ring 0 0 4 0"), 9);
        Check.same("a comma for ring", fault(","), 0);
        Check.same("two commas", fault("ring 0 0,,4 0"), 9);
        Check.same("a sign", fault("ring -1 0"), 5);
        Check.same("a point", fault("ring 1.0 0"), 6);
    }

    private static void moreMustCome() {
        Check.about("Terms 3: or the text's length, if more must come");
        String text = "ring 10 10,4 10,4 4 ";
        // Where a text may be cut so that all things in it are whole and stand right.
        int[] whole = {0, 4, 5, 6, 7, 8, 9, 10, 11, 12, 13, 14, 15, 16, 17, 18, 19, 20};
        for (int n : whole) {
            Check.same("the first " + n, fault(text.substring(0, n)), n);
            Check.same("the first " + n + " and blanks", fault(text.substring(0, n) + "   "), n + 3);
        }
        Check.same("400 blanks", fault(" ".repeat(400)), 400);
        Check.same("ring and 396 blanks", fault("ring" + " ".repeat(396)), 400);
    }

    private static void nothingBehind() {
        Check.about("Terms 3: behind end there may be blanks alone");
        Check.same("blanks", fault(PLAIN + "   "), NONE);
        String[] behind = {"0", ",", "x", "end", "ring", PLAIN, "\0", "."};
        for (String b : behind) {
            boolean joins = b.matches("[a-z].*");
            Check.same("at once, " + b, fault(PLAIN + b), joins ? 17 : 20);
            Check.same("behind blanks, " + b, fault(PLAIN + "  " + b), 22);
        }
    }

    /** A right text in which one byte is changed, put in or left out: held against the model's way to read. */
    private static void everyByteInEveryPlace() {
        Check.about("Terms 3: a text: ring CORNER { , CORNER } end");
        String text = " ring 20 1,9 14 ,0 3 end ";
        for (int at = 0; at < text.length(); at++) {
            String ahead = text.substring(0, at);
            String behind = text.substring(at + 1);
            Check.same("without " + at, fault(ahead + behind), Model.firstWrong(ahead + behind));
            Check.same("up to " + at, fault(ahead), Model.firstWrong(ahead));
            for (int b = 0; b < 256; b++) {
                String changed = ahead + (char) b + behind;
                Check.same("<" + changed + ">", fault(changed), Model.firstWrong(changed));
                String more = ahead + (char) b + text.charAt(at) + behind;
                Check.same("<" + more + ">", fault(more), Model.firstWrong(more));
            }
        }
    }

    private static void longTexts() {
        Check.about("Promise 14: a text of all the 400 bytes that the TAPE can have");
        String longest = "ring " + "20 14,".repeat(39) + "20 14";
        Check.same("blanks at last", fault(longest + " ".repeat(400 - 3 - longest.length()) + "end"), NONE);
        Check.same("end begins too late", fault(longest + " ".repeat(400 - 2 - longest.length()) + "en"), 398);
        Check.same("blanks ahead", fault(" ".repeat(380) + PLAIN), NONE);
        Check.same("blanks behind", fault(PLAIN + " ".repeat(380)), NONE);
        Check.same("a wrong last byte", fault(PLAIN + " ".repeat(379) + "x"), 399);
        Check.same("digits to the end", fault("ring " + "1".repeat(395)), 5);
        Check.same("letters to the end", fault("ring 0 0,4 0,4 4 " + "e".repeat(383)), 17);
    }
}
