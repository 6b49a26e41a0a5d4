/** Promises 12 to 14: undo, keep, restore. */
public final class UndoTest {
    private static void change(HeadDots head, int kind) {
        switch (kind) {
            case 0: head.line(0xf0f0f0); break;
            case 1: head.lines(0x123456, 14); break;
            case 2: head.rest(30); break;
            case 3: head.paper(2); break;
            case 4: head.set(5, 1); break;
            case 5: head.set(0, 299); break;
            case 6: head.restore(); break;
            default: Check.type(head, "line00ff00*2;paper:fine;empty"); head.print(); break;
        }
    }

    private static HeadDots ready() {
        HeadDots head = new HeadDots();
        head.line(0xff);
        head.keep();
        head.line(0xff00);
        return head;
    }

    private static void undoOfEach() {
        long before = Check.stateOf(ready());
        for (int kind = 0; kind < 8; kind++) {
            HeadDots head = ready();
            change(head, kind);
            Check.due("change " + kind + " changes", 1, Check.stateOf(head) != before ? 1 : 0);
            Check.due("saved states", 3, head.count(18));
            Check.due("undo " + kind, 2, head.undo());
            Check.due("state behind undo " + kind, before, Check.stateOf(head));
        }
    }

    private static void sixStates() {
        HeadDots head = new HeadDots();
        for (int i = 1; i <= 9; i++) {
            head.rest(i);
            Check.due("saved states", Math.min(6, i), head.count(18));
        }
        for (int left = 5; left >= 0; left--) {
            Check.due("undo", left, head.undo());
            Check.due("time", (left + 3) * (left + 4) / 2, head.count(0));
            Check.due("saved states", left, head.count(18));
        }
        Check.dueThrow("undo of none", Check.STATE, head, head::undo);
        head.rest(1);
        head.rest(1);
        head.undo();
        head.rest(5);
        Check.due("saved states", 2, head.count(18));
        Check.due("undo", 1, head.undo());
        Check.due("undo of the last one", 0, head.undo());
        Check.due("time", 6, head.count(0));
        Check.dueThrow("undo of none", Check.STATE, head, head::undo);
    }

    private static void savesWithoutAChange() {
        HeadDots head = new HeadDots();
        head.paper(0);
        head.set(0, 120);
        head.keep();
        head.restore();
        Check.due("saved states", 3, head.count(18));
    }

    private static HeadDots behindManyCalls() {
        HeadDots head = new HeadDots();
        head.lines(0xff, 13);
        head.set(0, 60);
        head.paper(1);
        head.line(5);
        return head;
    }

    private static HeadDots kept() {
        HeadDots head = behindManyCalls();
        head.keep();
        return head;
    }

    private static void snapshots() {
        HeadDots head = new HeadDots();
        Check.dueThrow("restore of none", Check.STATE, head, head::restore);
        Check.due("keep", 0, head.keep());
        Check.due("keep is not undoable", 0, head.count(18));
        head.lines(0xff, 13);
        Check.type(head, "rest");
        Check.due("keep in place of the one before", 13, head.keep());
        head.lines(0xffff, 5);
        Check.due("restore", 13, head.restore());
        Check.due("saved states", 3, head.count(18));
        Check.due("the buffer stays", 5, head.append('1'));
        Check.due("undo of restore", 2, head.undo());
        Check.due("lines before restore", 18, head.count(1));
        head.rest(9);
        Check.due("restore again", 13, head.restore());
        head.line(1);
        Check.due("the snapshot is not changed by what is printed", 13, head.restore());
        while (head.count(18) > 0) {
            head.undo();
        }
        Check.due("undo leaves the snapshot", 13, head.restore());
    }

    private static void stateOfTheSnapshot() {
        long due = Check.stateOf(behindManyCalls());
        HeadDots head = kept();
        head.lines(0xffff, 5);
        head.restore();
        Check.due("state of the snapshot", due, Check.stateOf(head));
        head = kept();
        head.lines(0xffff, 5);
        head.restore();
        head.line(1);
        head.rest(9);
        head.restore();
        Check.due("state of the snapshot, restored again", due, Check.stateOf(head));
        HeadDots later = kept();
        later.lines(0xffff, 5);
        long dueLater = Check.stateOf(later);
        head = kept();
        head.lines(0xffff, 5);
        head.restore();
        head.undo();
        Check.due("state before restore", dueLater, Check.stateOf(head));
    }

    public static void main(String[] args) {
        undoOfEach();
        sixStates();
        savesWithoutAChange();
        snapshots();
        stateOfTheSnapshot();
        Check.end();
    }
}
