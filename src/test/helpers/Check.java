/** Counts answers that are not as due, prints each, and ends the test with exit code 1 if there was one. */
final class Check {
    private static int wrong = 0;
    private static int asked = 0;
    private static int askedBefore = 0;
    private static int sentences = 0;
    private static String sentence = "";

    private Check() { }

    interface Call {
        void run();
    }

    /** The document's sentence that the checks from here on hold: a test of its own, with one check at least. */
    static void about(String words) {
        endSentence();
        sentences++;
        sentence = words;
        askedBefore = asked;
    }

    private static void endSentence() {
        if (sentences > 0 && asked == askedBefore) {
            say("has no check");
        }
    }

    private static void say(String what) {
        wrong++;
        System.out.println((sentences > 0 ? "<" + sentence + "> " : "") + what);
    }

    static void same(String what, long got, long due) {
        asked++;
        if (got != due) {
            say(what + " answered " + got + ", due is " + due);
        }
    }

    static void same(String what, boolean got, boolean due) {
        same(what, got ? 1L : 0L, due ? 1L : 0L);
    }

    static void same(String what, String got, String due) {
        asked++;
        if (!got.equals(due)) {
            say(what + " answered " + got + ", due is " + due);
        }
    }

    /** What a call threw: its class, and whether the machine or the library threw it, not the class under test. */
    static String thrown(Throwable e) {
        StackTraceElement[] trace = e.getStackTrace();
        boolean byItself = trace.length > 0 && !trace[0].getClassName().matches("(BergPatrol|Model)([$].*)?");
        return e.getClass().getName() + (byItself ? " by itself" : "");
    }

    /** Just this class of exception is due, not one below it, and by a throw of the class under test. */
    static void throwsJust(String what, Class<? extends RuntimeException> due, Call call) {
        String got = "nothing thrown";
        try {
            call.run();
        } catch (RuntimeException e) {
            got = thrown(e);
        }
        same(what, got, due.getName());
    }

    static void noIndex(String what, Call call) {
        throwsJust(what, IndexOutOfBoundsException.class, call);
    }

    static void noState(String what, Call call) {
        throwsJust(what, IllegalStateException.class, call);
    }

    static void noElement(String what, Call call) {
        throwsJust(what, java.util.NoSuchElementException.class, call);
    }

    static void noArgument(String what, Call call) {
        throwsJust(what, IllegalArgumentException.class, call);
    }

    static void notSupported(String what, Call call) {
        throwsJust(what, UnsupportedOperationException.class, call);
    }

    static void end() {
        endSentence();
        String of = sentences > 0 ? " to " + sentences + " sentences" : "";
        System.out.println(asked + " answers" + of + ", " + wrong + " not as due");
        if (wrong != 0 || asked == 0) {
            System.exit(1);
        }
    }
}
