/** Compares answers with those that are due, and ends a test with exit code 1 if one was wrong. */
final class Check {
    /** A call whose answer or exception is of interest. */
    interface Call {
        long answer();
    }

    /** A call on a head that is told later. */
    interface CallOn {
        long answer(HeadDots head);
    }

    /** Makes a new head and brings it to where a test begins, always by the same calls. */
    interface Maker {
        HeadDots make();
    }

    static final String ARGUMENT = "IllegalArgumentException";
    static final String STATE = "IllegalStateException";
    static final String INDEX = "IndexOutOfBoundsException";

    private static final long MOST_MILLISECONDS = 300000L;

    private static int wrong = 0;
    private static int checked = 0;
    private static int sentences = 0;
    private static int checkedAheadOfSentence = -1;
    private static String held = "";
    private static Document document = null;

    static {
        Thread watch = new Thread(Check::endLate);
        watch.setDaemon(true);
        watch.start();
    }

    private Check() {
    }

    /** A call that does not end is wrong, too; a test takes some seconds. */
    private static void endLate() {
        try {
            Thread.sleep(MOST_MILLISECONDS);
        } catch (InterruptedException e) {
            return;
        }
        System.out.println(held + "a call does not end");
        Runtime.getRuntime().halt(1);
    }

    /** What is checked from here on holds this sentence of the document, which stands at this place. */
    static void holds(String place, String quote) {
        endSentence();
        held = place + ", \"" + quote + "\": ";
        sentences++;
        take(place, quote);
        checkedAheadOfSentence = checked;
    }

    /** The sentence names no boundary, and no test holds it by its name. */
    static void namesNoBoundary(String place, String quote) {
        endSentence();
        take(place, quote);
    }

    /** Runs them all; an exception that none of them expects ends its own test alone. */
    static void runAll(Runnable... tests) {
        for (Runnable test : tests) {
            try {
                test.run();
            } catch (RuntimeException e) {
                checked++;
                tellWrong("an exception ends the test: " + e + " at " + placeIn(e));
            }
        }
    }

    /** The line of the test, since the line of the class tells less. */
    private static String placeIn(RuntimeException e) {
        for (StackTraceElement call : e.getStackTrace()) {
            if (call.getClassName().endsWith("Test")) {
                return call.toString();
            }
        }
        return "?";
    }

    private static void take(String place, String quote) {
        if (document == null) {
            document = new Document();
        }
        if (!document.take(place, quote)) {
            tellWrong(place + " of the document has no (or no more) \"" + quote + "\"");
        }
    }

    private static void endSentence() {
        if (checkedAheadOfSentence == checked) {
            tellWrong("nothing is checked");
        }
        checkedAheadOfSentence = -1;
        held = "";
    }

    /** Each sentence of these places of the document was quoted. */
    static void dueAllHeld(String... places) {
        endSentence();
        for (String place : places) {
            dueText("what no test holds of " + place, "", document == null ? "all" : document.left(place));
        }
    }

    private static void tellWrong(String message) {
        wrong++;
        System.out.println(held + message);
    }

    static void due(String what, long due, long got) {
        checked++;
        if (due != got) {
            tellWrong(what + " answered " + got + ", due is " + due);
        }
    }

    static void dueDouble(String what, double due, double got) {
        due(what + " (bits)", Double.doubleToRawLongBits(due), Double.doubleToRawLongBits(got));
    }

    static void dueFloat(String what, float due, float got) {
        due(what + " (bits)", Float.floatToRawIntBits(due), Float.floatToRawIntBits(got));
    }

    static void dueText(String what, String due, String got) {
        checked++;
        if (!due.equals(got)) {
            tellWrong(what + " answered " + got + ", due is " + due);
        }
    }

    /** The call throws exactly this exception, and the object's digest is the same behind it. */
    static void dueThrow(String what, String due, HeadDots head, Call call) {
        long before = head.digest();
        dueText(what, due, outcome(call));
        due(what + " changes nothing", before, head.digest());
    }

    /**
     * The call throws exactly this exception, and changes nothing: the head is as its twin on which
     * the call was not made, also in its saved states and its snapshot.
     */
    static void dueRefused(String what, String due, Maker maker, CallOn call) {
        HeadDots head = maker.make();
        dueText(what, due, outcome(() -> call.answer(head)));
        dueSame(what + " changes nothing", maker.make(), head);
    }

    /** The call is a look: it answers, and changes nothing. */
    static void dueLook(String what, Maker maker, CallOn call) {
        HeadDots head = maker.make();
        String first = outcome(() -> call.answer(head));
        dueText(what + " again", first, outcome(() -> call.answer(head)));
        dueSame(what + " changes nothing", maker.make(), head);
    }

    /** Both heads are the same, also in their saved states and snapshots; both are used up by it. */
    static void dueSame(String what, HeadDots due, HeadDots got) {
        due(what + ": digest", due.digest(), got.digest());
        due(what + ": firstError", due.firstError(), got.firstError());
        for (int saved = due.count(18); saved > 0; saved--) {
            dueText(what + ": undo", outcome(due::undo), outcome(got::undo));
            due(what + ": digest behind undo", due.digest(), got.digest());
        }
        dueText(what + ": restore", outcome(due::restore), outcome(got::restore));
        due(what + ": digest behind restore", due.digest(), got.digest());
        due(what + ": clearBuffer", due.clearBuffer(), got.clearBuffer());
    }

    /** A hash of all that looks tell but for the saved states and the buffer; takes some 230 calls. */
    static long stateOf(HeadDots head) {
        long hash = 7;
        for (int what = 0; what < 18; what++) {
            hash = 31 * hash + head.count(what);
        }
        for (int dot = 0; dot < 24; dot++) {
            for (int what = 0; what < 7; what++) {
                hash = 31 * hash + head.dot(dot, what);
            }
        }
        for (int back = 0; back < 12; back++) {
            for (int what = 0; what < 3; what++) {
                hash = 31 * hash + head.kept(back, what);
            }
        }
        return 31 * hash + Float.floatToIntBits(head.meanHeat());
    }

    static String outcome(Call call) {
        try {
            return Long.toString(call.answer());
        } catch (RuntimeException e) {
            return e.getClass().getSimpleName();
        }
    }

    /** Appends the text to the buffer. */
    static void type(HeadDots head, String text) {
        for (int i = 0; i < text.length(); i++) {
            head.append(text.charAt(i));
        }
    }

    /** A line of the strip as a text; empty if it is not kept. */
    static String told(HeadDots head, int back) {
        StringBuilder text = new StringBuilder();
        int code = head.told(back, 0);
        while (code != HeadDots.NONE && text.length() < 100) {
            text.append((char) code);
            code = head.told(back, text.length());
        }
        return text.toString();
    }

    static void end() {
        endSentence();
        System.out.println(checked + " answers looked at, " + wrong + " wrong"
            + (sentences > 0 ? "; sentences of the document held: " + sentences : ""));
        if (wrong != 0 || checked == 0) {
            System.exit(1);
        }
    }
}
