/** Promises 15 to 17: dot, kept, count. */
public final class LooksTest {
    private static void dots() {
        HeadDots head = new HeadDots();
        head.set(0, 112);
        head.line(0b11);
        head.line(0b101);
        int[][] due = {
            {1, 1, 2, 1}, {0, 1, 1, 1}, {1, 0, 1, 0}, {0, 0, 0, 0},
        };
        for (int dot = 0; dot < 4; dot++) {
            for (int what = 1; what <= 4; what++) {
                Check.due("dot " + dot + " " + what, due[dot][what - 1], head.dot(dot, what));
            }
        }
        int[] pulses = {82, 102, 92, 112};
        for (int dot = 0; dot < 4; dot++) {
            Check.due("pulse of dot " + dot, pulses[dot], head.dot(dot, 5));
        }
        Check.due("last dot", 0, head.dot(23, 3));
        head.line(1 << 23);
        Check.due("last dot", 1, head.dot(23, 3));
        Check.due("last dot's bit", 1, head.dot(23, 1));
    }

    private static void waitOfADot() {
        HeadDots head = new HeadDots();
        head.set(0, 300);
        head.set(2, 900);
        head.set(1, 200);
        head.set(6, 0);
        head.lines(1, 10);
        head.set(2, 330);
        long before = head.digest();
        int wait = head.dot(0, 6);
        int heat = head.dot(0, 0);
        int pulse = head.dot(0, 5);
        Check.due("the look changes nothing", before, head.digest());
        Check.due("cool enough behind the wait", 1, cooled(heat, wait) + pulse <= 330 ? 1 : 0);
        Check.due("too hot ahead of it", 1, cooled(heat, wait - 1) + pulse > 330 ? 1 : 0);
        Check.due("no wait for a cold dot", 0, head.dot(1, 6));
        head.line(1);
        Check.due("as the line waits", wait, head.count(3) - waitsBefore(head));
    }

    private static int waitsBefore(HeadDots head) {
        head.undo();
        return head.count(3);
    }

    private static int cooled(int heat, int time) {
        int left = heat;
        for (int i = 0; i < time; i++) {
            left = Math.max(0, left - left / 200 - 1);
        }
        return left;
    }

    private static void keptLines() {
        HeadDots head = new HeadDots();
        head.set(0, 112);
        head.set(3, 20);
        head.set(4, 59);
        head.line(0b100011);
        Check.due("dark", 0b100000, head.kept(0, 0));
        Check.due("faint", 0b11, head.kept(0, 1));
        Check.due("parts", 2, head.kept(0, 2));
        Check.due("not kept", HeadDots.NONE, head.kept(1, 0));
        Check.due("not kept", HeadDots.NONE, head.kept(11, 2));
        head.line(0);
        Check.due("dark of no dots", 0, head.kept(0, 0));
        Check.due("faint of no dots", 0, head.kept(0, 1));
        Check.due("parts of no dots", 0, head.kept(0, 2));
        Check.due("the line before", 0b11, head.kept(1, 1));
        head.lines(0, 10);
        Check.due("the oldest one", 0b11, head.kept(11, 1));
        head.line(0);
        Check.due("gone", 0, head.kept(11, 1));
    }

    private static void counts() {
        HeadDots head = new HeadDots();
        head.set(0, 100);
        head.set(4, 16);
        int first = head.line(0b111);
        int second = head.line(0b1);
        head.rest(3);
        Check.due("time", first + second + 3, head.count(0));
        Check.due("lines", 2, head.count(1));
        Check.due("parts", 3, head.count(2));
        Check.due("waits", 0, head.count(3));
        Check.due("dots", 4, head.count(4));
        Check.due("dots, dot by dot", 4, head.count(5));
        Check.due("lines of the strip", 2, head.count(10));
        int most = Math.max(head.dot(0, 0), Math.max(head.dot(1, 0), head.dot(2, 0)));
        Check.due("greatest heat now", most, head.count(7));
        Check.due("greatest heat so far", 1, head.count(8) >= 100 ? 1 : 0);
        int hottest = head.count(8);
        head.rest(500);
        Check.due("greatest heat now", 0, head.count(7));
        Check.due("greatest heat so far", hottest, head.count(8));
        Check.due("faint", head.dot(0, 4) + head.dot(1, 4) + head.dot(2, 4), head.count(6));
        Check.due("faint", 3, head.count(6));
        for (int i = 0; i < 7; i++) {
            head.set(i, i == 5 ? 1 : i == 6 ? 50 : i == 3 ? 20 : i == 2 ? 333 : 51 + i);
        }
        int[] settings = {51, 52, 333, 20, 55, 1, 50};
        for (int i = 0; i < 7; i++) {
            Check.due("setting " + i, settings[i], head.count(11 + i));
        }
        head.paper(2);
        Check.due("paper", 2, head.count(9));
        Check.due("saved states", 6, head.count(18));
    }

    private static void wrongInputs() {
        HeadDots head = new HeadDots();
        head.lines(0xffffff, 2);
        int[] far = {Integer.MIN_VALUE, -1, Integer.MAX_VALUE};
        for (int number : far) {
            Check.dueThrow("dot", Check.INDEX, head, () -> head.dot(number, 0));
            Check.dueThrow("dot, both wrong", Check.INDEX, head, () -> head.dot(number, 7));
            Check.dueThrow("dot's what", Check.ARGUMENT, head, () -> head.dot(0, number));
            Check.dueThrow("kept", Check.ARGUMENT, head, () -> head.kept(number, 0));
            Check.dueThrow("kept's what", Check.ARGUMENT, head, () -> head.kept(0, number));
            Check.dueThrow("count", Check.ARGUMENT, head, () -> head.count(number));
        }
        Check.dueThrow("dot 24", Check.INDEX, head, () -> head.dot(24, 0));
        Check.dueThrow("dot 0 7", Check.ARGUMENT, head, () -> head.dot(0, 7));
        Check.dueThrow("kept 12", Check.ARGUMENT, head, () -> head.kept(12, 0));
        Check.dueThrow("kept 0 3", Check.ARGUMENT, head, () -> head.kept(0, 3));
        Check.dueThrow("kept 11 3, not kept", Check.ARGUMENT, head, () -> head.kept(11, 3));
        Check.dueThrow("count 19", Check.ARGUMENT, head, () -> head.count(19));
        Check.due("nothing is saved by looks", 1, head.count(18));
    }

    public static void main(String[] args) {
        dots();
        waitOfADot();
        keptLines();
        counts();
        wrongInputs();
        Check.end();
    }
}
