/** Compares answers with those that are due, and ends a test with exit code 1 if one was wrong. */
final class Check {
    /** A call whose exception is of interest. */
    interface Call {
        long answer();
    }

    static final String ARGUMENT = "IllegalArgumentException";
    static final String STATE = "IllegalStateException";
    static final String INDEX = "IndexOutOfBoundsException";

    private static int wrong = 0;
    private static int checked = 0;

    private Check() {
    }

    static void due(String what, long due, long got) {
        checked++;
        if (due != got) {
            wrong++;
            System.out.println(what + " answered " + got + ", due is " + due);
        }
    }

    static void dueDouble(String what, double due, double got) {
        due(what + " (bits)", Double.doubleToRawLongBits(due), Double.doubleToRawLongBits(got));
    }

    static void dueFloat(String what, float due, float got) {
        due(what + " (bits)", Float.floatToRawIntBits(due), Float.floatToRawIntBits(got));
    }

    static void dueText(String what, String due, String got) {
        checked++;
        if (!due.equals(got)) {
            wrong++;
            System.out.println(what + " answered " + got + ", due is " + due);
        }
    }

    /** The call throws exactly this exception, and the object's digest is the same behind it. */
    static void dueThrow(String what, String due, HeadDots head, Call call) {
        long before = head.digest();
        dueText(what, due, outcome(call));
        due(what + " changes nothing", before, head.digest());
    }

    static String outcome(Call call) {
        try {
            return Long.toString(call.answer());
        } catch (RuntimeException e) {
            return e.getClass().getSimpleName();
        }
    }

    /** Appends the text to the buffer. */
    static void type(HeadDots head, String text) {
        for (int i = 0; i < text.length(); i++) {
            head.append(text.charAt(i));
        }
    }

    /** A line of the strip as a text; empty if it is not kept. */
    static String told(HeadDots head, int back) {
        StringBuilder text = new StringBuilder();
        for (int i = 0; head.told(back, i) != HeadDots.NONE; i++) {
            text.append((char) head.told(back, i));
        }
        return text.toString();
    }

    static void end() {
        System.out.println(checked + " answers looked at, " + wrong + " wrong");
        if (wrong != 0 || checked == 0) {
            System.exit(1);
        }
    }
}
