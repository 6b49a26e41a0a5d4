/** Heads from which the tests of the document's sentences begin. */
final class Heads {
    static final int ALL = 16777215;
    /** Numbers that are far from what any call takes; -1 stands for "below 0" at its nearest. */
    static final int[] FAR = {Integer.MIN_VALUE, -1, Integer.MAX_VALUE};

    private Heads() {
    }

    /** Hot and cold dots, dark and faint ones, a strip, a snapshot, 6 saved states, an incomplete text. */
    static HeadDots busy() {
        HeadDots head = new HeadDots();
        head.set(3, 20);
        head.set(4, 79);
        head.paper(1);
        head.set(0, 112);
        head.lines(0x0ff00f, 2);
        head.keep();
        head.set(2, 340);
        head.line(0x800001);
        head.rest(9);
        head.lines(0x123456, 3);
        head.set(0, 90);
        head.line(0xf000);
        Check.type(head, "line00ff0f;paper:f");
        return head;
    }

    /** As busy, with a buffer of 60 characters. */
    static HeadDots busyAndFull() {
        HeadDots head = busy();
        head.clearBuffer();
        Check.type(head, "empty;empty;empty;empty;empty;empty;empty;empty;empty;line00");
        return head;
    }

    /** As busy, with this buffer. */
    static HeadDots busyWith(String text) {
        HeadDots head = busy();
        head.clearBuffer();
        Check.type(head, text);
        return head;
    }

    /** As busy, with no saved state left. */
    static HeadDots busyWithoutSaved() {
        HeadDots head = busy();
        for (int i = 0; i < 6; i++) {
            head.undo();
        }
        return head;
    }

    /** Printed, with saved states and a buffer, but no snapshot. */
    static HeadDots withoutSnapshot() {
        HeadDots head = new HeadDots();
        head.lines(0x00ffff, 3);
        head.rest(4);
        Check.type(head, "empt");
        return head;
    }

    static HeadDots typed(String text) {
        HeadDots head = new HeadDots();
        Check.type(head, text);
        return head;
    }

    /**
     * This dot alone has this heat (0 to 179), and printed in the last line; there is no feed, and
     * setting 1 is 200, so that a heat below 200 becomes less by 1 in each millisecond.
     */
    static HeadDots withHeat(int dot, int heat) {
        HeadDots head = new HeadDots();
        head.set(1, 200);
        head.set(6, 0);
        head.set(0, 199);
        head.line(1 << dot);
        if (heat < 179) {
            head.rest(179 - heat);
        }
        head.set(0, 120);
        return head;
    }

    /** No feed, dots that lose 1 in each millisecond, and power for this many dots at once (1 to 24). */
    static HeadDots slowlyCooling(int atOnce) {
        HeadDots head = new HeadDots();
        head.set(1, 200);
        head.set(6, 0);
        head.set(3, 1);
        head.set(4, atOnce);
        return head;
    }

    /** 14 lines of 0, 1, 2 and 24 parts; dots of them are dark, faint, or do not print. */
    static HeadDots fullStrip() {
        HeadDots head = new HeadDots();
        head.set(0, 115);
        head.set(3, 20);
        head.set(4, 20);
        head.line(ALL);
        head.line(1);
        head.lines(0, 9);
        head.rest(300);
        head.line(0b100000000000000000000011);
        head.line(1 << 23);
        head.line(ALL);
        return head;
    }
}
