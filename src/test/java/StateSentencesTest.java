/** The document's "Undo, the snapshot" and "Exceptions", and promises 12 to 14: each sentence with its boundaries. */
public final class StateSentencesTest {
    private static final int ALL = Heads.ALL;

    /** A call and what it is told as. */
    private static final class Named {
        private final String name;
        private final Check.CallOn call;

        private Named(String name, Check.CallOn call) {
            this.name = name;
            this.call = call;
        }
    }

    /** Every undoable method, with calls that change much and calls that change nothing. */
    private static final Named[] UNDOABLE = {
        new Named("line", h -> h.line(0x00ff0f)),
        new Named("line of no dots", h -> h.line(0)),
        new Named("lines", h -> h.lines(ALL, 20)),
        new Named("lines of no dots", h -> h.lines(0, 1)),
        new Named("rest", h -> h.rest(999)),
        new Named("paper 0", h -> h.paper(0)),
        new Named("paper 1", h -> h.paper(1)),
        new Named("paper 2", h -> h.paper(2)),
        new Named("set", h -> h.set(2, 777)),
        new Named("set to what it is", h -> h.set(2, h.count(13))),
        new Named("print", h -> printed(h, "line00ff0f*3;paper:label;rest7;empty")),
        new Named("print of a paper alone", h -> printed(h, "paper:plain")),
        new Named("restore", h -> h.restore()),
    };

    /** Every method that is not undoable, with a call that does not throw. */
    private static final Named[] NOT_UNDOABLE = {
        new Named("append", h -> h.append('x')),
        new Named("clearBuffer", h -> h.clearBuffer()),
        new Named("firstError", h -> h.firstError()),
        new Named("told", h -> h.told(0, 0)),
        new Named("keep", h -> h.keep()),
        new Named("dot", h -> h.dot(0, 0)),
        new Named("kept", h -> h.kept(0, 0)),
        new Named("count", h -> h.count(0)),
        new Named("ifPrinted", h -> h.ifPrinted(ALL, 0)),
        new Named("betterWay", h -> h.betterWay(ALL)),
        new Named("coolIn", h -> h.coolIn(0)),
        new Named("darkFrom", h -> h.darkFrom(0)),
        new Named("darkness", h -> (long) h.darkness()),
        new Named("meanHeat", h -> (long) h.meanHeat()),
        new Named("digest", h -> h.digest()),
    };

    /** Every call that throws, on a busy head. */
    private static final Named[] REFUSED = {
        new Named("line", h -> h.line(-1)),
        new Named("lines, dots", h -> h.lines(ALL + 1, 3)),
        new Named("lines, times", h -> h.lines(5, 21)),
        new Named("rest", h -> h.rest(1000)),
        new Named("paper", h -> h.paper(3)),
        new Named("set, setting", h -> h.set(7, 1)),
        new Named("set, value", h -> h.set(6, 51)),
        new Named("append", h -> h.append(32)),
        new Named("print", h -> h.print()),
        new Named("told, back", h -> h.told(12, 0)),
        new Named("told, index", h -> h.told(0, -1)),
        new Named("dot, dot", h -> h.dot(24, 0)),
        new Named("dot, what", h -> h.dot(0, 7)),
        new Named("kept, back", h -> h.kept(12, 0)),
        new Named("kept, what", h -> h.kept(0, 3)),
        new Named("count", h -> h.count(19)),
        new Named("ifPrinted, dots", h -> h.ifPrinted(ALL + 1, 0)),
        new Named("ifPrinted, what", h -> h.ifPrinted(0, 5)),
        new Named("betterWay", h -> h.betterWay(-1)),
        new Named("coolIn", h -> h.coolIn(901)),
        new Named("darkFrom", h -> h.darkFrom(24)),
    };

    private static long printed(HeadDots head, String text) {
        head.clearBuffer();
        Check.type(head, text);
        return head.print();
    }

    /** 1 if it throws. */
    private static int throwsIt(Named call, HeadDots head) {
        String outcome = Check.outcome(() -> call.call.answer(head));
        return outcome.endsWith("Exception") ? 1 : 0;
    }

    private static HeadDots newHeadWithSnapshot() {
        HeadDots head = new HeadDots();
        head.keep();
        return head;
    }

    private static void savesTheStateBefore() {
        Check.holds("Undo, the snapshot", "Each method that is marked \"undoable\" and does not throw an exception saves"
            + " the state from before it (also if it changes nothing):");
        Check.Maker[] makers = {StateSentencesTest::newHeadWithSnapshot, Heads::busy};
        for (Check.Maker maker : makers) {
            long before = Check.stateOf(maker.make());
            for (Named call : UNDOABLE) {
                HeadDots head = maker.make();
                int saved = head.count(18);
                Check.due(call.name + " throws", 0, throwsIt(call, head));
                Check.due(call.name + ": saved states", Math.min(6, saved + 1), head.count(18));
                head.undo();
                Check.due(call.name + ": the state behind undo", before, Check.stateOf(head));
            }
            for (Named call : NOT_UNDOABLE) {
                HeadDots head = maker.make();
                int saved = head.count(18);
                Check.due(call.name + " throws", 0, throwsIt(call, head));
                Check.due(call.name + " is not undoable", saved, head.count(18));
            }
        }
        for (Named call : REFUSED) {
            HeadDots head = newHeadWithSnapshot();
            Check.due(call.name + " throws", 1, throwsIt(call, head));
            Check.due(call.name + " that throws saves nothing", 0, head.count(18));
        }
    }

    private static void savesAll() {
        Check.holds("Undo, the snapshot", "all, also the strip and what is counted so far,");
        for (Named call : UNDOABLE) {
            HeadDots head = Heads.fullStrip();
            head.keep();
            head.line(0xff);
            HeadDots other = Heads.fullStrip();
            other.line(0xff);
            call.call.answer(head);
            head.undo();
            for (int what = 0; what <= 10; what++) {
                Check.due(call.name + ": count " + what, other.count(what), head.count(what));
            }
            for (int back = 0; back < 12; back++) {
                for (int what = 0; what <= 2; what++) {
                    Check.due(call.name + ": line " + back, other.kept(back, what), head.kept(back, what));
                }
            }
            Check.dueText(call.name + ": the latest line", Check.told(other, 0), Check.told(head, 0));
            Check.dueText(call.name + ": the line of 24 parts", Check.told(other, 1), Check.told(head, 1));
            for (int dot = 0; dot < 24; dot++) {
                Check.due(call.name + ": printed", other.dot(dot, 3), head.dot(dot, 3));
                Check.due(call.name + ": faint", other.dot(dot, 4), head.dot(dot, 4));
            }
        }
    }

    private static void butTheBuffer() {
        Check.holds("Undo, the snapshot", "but the buffer,");
        HeadDots head = Heads.typed("line00");
        head.rest(5);
        Check.type(head, "ff0");
        head.undo();
        Check.due("the buffer behind undo", 10, head.append('0'));
        head.rest(5);
        head.clearBuffer();
        head.undo();
        Check.due("the buffer that was cleared, behind undo", 0, head.clearBuffer());
        Check.type(head, "empty");
        head.print();
        head.undo();
        Check.due("the buffer that was printed, behind undo", 0, head.clearBuffer());
        Check.type(head, "em");
        head.keep();
        Check.type(head, "pty");
        head.restore();
        Check.due("the buffer behind restore", 5, head.firstError());
        head.clearBuffer();
        head.restore();
        Check.due("the buffer that was cleared, behind restore", 0, head.clearBuffer());
    }

    private static void butTheSavedStates() {
        Check.holds("Undo, the snapshot", "the saved states");
        HeadDots head = new HeadDots();
        head.rest(1);
        head.keep();
        head.rest(2);
        head.rest(4);
        Check.due("undo", 2, head.undo());
        Check.due("undo", 1, head.undo());
        head.restore();
        Check.due("one saved state, and the one of restore", 2, head.count(18));
        Check.due("the time of the snapshot", 1, head.count(0));
        head.rest(8);
        head.rest(16);
        head.restore();
        Check.due("saved states behind restore", 5, head.count(18));
        int[] times = {25, 9, 1, 1, 0};
        for (int i = 0; i < times.length; i++) {
            Check.due("undo", 4 - i, head.undo());
            Check.due("the time then", times[i], head.count(0));
        }
    }

    private static void andTheSnapshot() {
        Check.holds("Undo, the snapshot", "and the snapshot.");
        HeadDots head = new HeadDots();
        head.line(1);
        head.keep();
        head.line(2);
        head.undo();
        head.undo();
        Check.dueText("a snapshot from behind the saved state stays", "1", Check.outcome(head::restore));
        Check.due("its line", 1, head.kept(0, 0));
        head.line(4);
        head.keep();
        head.undo();
        head.undo();
        Check.due("nothing is printed then", 0, head.count(1));
        Check.due("the later snapshot stays, too", 2, head.restore());
        Check.due("its line", 4, head.kept(0, 0));
        Check.due("the line behind it", 1, head.kept(1, 0));
    }

    private static void sixStates() {
        Check.holds("Undo, the snapshot", "At most 6 states are saved; the oldest one is dropped first.");
        for (int calls = 0; calls <= 15; calls++) {
            HeadDots head = new HeadDots();
            for (int i = 1; i <= calls; i++) {
                head.rest(i);
                Check.due("saved states behind " + i, Math.min(6, i), head.count(18));
            }
            for (int i = calls; i > Math.max(0, calls - 6); i--) {
                Check.due("undo of call " + i, Math.min(6, calls) - (calls - i) - 1, head.undo());
                Check.due("the time then", i * (i - 1) / 2, head.count(0));
            }
            Check.dueText("undo behind the last one", Check.STATE, Check.outcome(head::undo));
            head.rest(77);
            Check.due("a state is saved again", 1, head.count(18));
            Check.due("undo of it", 0, head.undo());
        }
    }

    private static void changesNothing() {
        Check.holds("Exceptions", "A call that throws an exception changes nothing.");
        for (Named call : REFUSED) {
            HeadDots head = Heads.busy();
            Check.due(call.name + " throws", 1, throwsIt(call, head));
            Check.dueSame(call.name + " changes nothing", Heads.busy(), head);
        }
        Check.dueRefused("append to a full buffer", Check.STATE, Heads::busyAndFull, h -> h.append('x'));
        Check.dueRefused("undo", Check.STATE, Heads::busyWithoutSaved, h -> h.undo());
        Check.dueRefused("restore", Check.STATE, Heads::withoutSnapshot, h -> h.restore());
        HeadDots head = Heads.busyWith("empty");
        for (Named call : REFUSED) {
            if (!call.name.equals("print")) {
                throwsIt(call, head);
            }
        }
        Check.dueSame("all of them", Heads.busyWith("empty"), head);
    }

    private static void namedFirst() {
        Check.holds("Exceptions", "If several exceptions apply, the one that is named first in the throws clause is"
            + " thrown.");
        for (int far : Heads.FAR) {
            Check.dueRefused("set, both", Check.INDEX, Heads::busy, h -> h.set(far, far));
            Check.dueRefused("dot, both", Check.INDEX, Heads::busy, h -> h.dot(far, far));
            Check.dueRefused("append, both", Check.ARGUMENT, Heads::busyAndFull, h -> h.append(far));
        }
        Check.dueRefused("set(7, 0)", Check.INDEX, Heads::busy, h -> h.set(7, 0));
        Check.dueRefused("set(-1, 1000)", Check.INDEX, Heads::busy, h -> h.set(-1, 1000));
        Check.dueRefused("dot(24, 7)", Check.INDEX, Heads::busy, h -> h.dot(24, 7));
        Check.dueRefused("dot(-1, -1)", Check.INDEX, Heads::busy, h -> h.dot(-1, -1));
        Check.dueRefused("append 32", Check.ARGUMENT, Heads::busyAndFull, h -> h.append(32));
        Check.dueRefused("append 127", Check.ARGUMENT, Heads::busyAndFull, h -> h.append(127));
    }

    private static void noneIsMinusOne() {
        Check.holds("Exceptions", "The constants: `NONE = -1`: There is nothing to return.");
        Check.due("NONE", -1, HeadDots.NONE);
        Check.due("a character of no line", -1, new HeadDots().told(0, 0));
        Check.due("a line that is not kept", -1, new HeadDots().kept(0, 0));
    }

    private static void looksChangeNothing() {
        Check.holds("Exceptions", "Ahead of the calls `dot`, `kept`, `count` the interface says: ---- looks; nothing is"
            + " changed.");
        for (int dot = 0; dot < 24; dot += 23) {
            int number = dot;
            for (int what = 0; what <= 6; what++) {
                int of = what;
                Check.dueLook("dot " + dot + " " + what, Heads::busy, h -> h.dot(number, of));
            }
        }
        for (int what = 0; what <= 18; what++) {
            int of = what;
            Check.dueLook("count " + what, Heads::busy, h -> h.count(of));
            Check.dueLook("kept " + what, Heads::fullStrip, h -> h.kept(of % 12, of % 3));
        }
        Check.holds("Exceptions", "Ahead of the calls `ifPrinted`, `betterWay`, `coolIn`, `darkFrom`, `darkness`,"
            + " `meanHeat`, `digest` the interface says: ---- what would be; nothing is changed.");
        for (int what = 0; what <= 4; what++) {
            int of = what;
            for (int dots : new int[] {0, 1, 0x0f0f0f, ALL}) {
                Check.dueLook("ifPrinted " + dots, Heads::busy, h -> h.ifPrinted(dots, of));
                Check.dueLook("betterWay " + dots, Heads::busy, h -> h.betterWay(dots));
            }
        }
        Check.dueLook("coolIn 0", Heads::busy, h -> h.coolIn(0));
        Check.dueLook("coolIn 900", Heads::busy, h -> h.coolIn(900));
        Check.dueLook("darkFrom 0", Heads::busy, h -> h.darkFrom(0));
        Check.dueLook("darkFrom 23", Heads::busy, h -> h.darkFrom(23));
        Check.dueLook("darkness", Heads::busy, h -> (long) (1000 * h.darkness()));
        Check.dueLook("meanHeat", Heads::busy, h -> (long) (1000 * h.meanHeat()));
        Check.dueLook("digest", Heads::busy, h -> h.digest());
        HeadDots head = Heads.busy();
        for (Named call : NOT_UNDOABLE) {
            if (!call.name.equals("append") && !call.name.equals("clearBuffer") && !call.name.equals("keep")) {
                call.call.answer(head);
            }
        }
        Check.dueSame("all looks", Heads.busy(), head);
    }

    private static void restoresTheLatest() {
        Check.holds("Promise 12", "Restores the latest saved state, and drops it.");
        HeadDots head = new HeadDots();
        head.line(1);
        head.line(2);
        head.line(4);
        for (int lines = 2; lines >= 0; lines--) {
            head.undo();
            Check.due("lines behind undo", lines, head.count(1));
            Check.due("saved states behind undo", lines, head.count(18));
            Check.due("the latest line", lines == 0 ? HeadDots.NONE : lines, head.kept(0, 0));
        }
        Check.dueSame("all is undone", new HeadDots(), head);
        head = new HeadDots();
        head.rest(1);
        head.rest(1);
        head.undo();
        head.line(ALL);
        head.undo();
        head.rest(5);
        head.undo();
        Check.due("what was saved before is not changed", 1, head.count(0));
        Check.due("undo of the first one", 0, head.undo());
        Check.dueSame("all is undone", new HeadDots(), head);
    }

    private static void statesThatAreLeft() {
        Check.holds("Promise 12", "Returns how many saved states are left.");
        Check.due("of two", 1, Heads.withoutSnapshot().undo());
        HeadDots head = Heads.busy();
        for (int left = 5; left >= 0; left--) {
            Check.due("of six or more", left, head.undo());
        }
    }

    private static void noSavedState() {
        Check.holds("Promise 12", "Throws `IllegalStateException` if there is none");
        Check.dueRefused("undo of a new head", Check.STATE, HeadDots::new, h -> h.undo());
        Check.dueRefused("undo behind 6", Check.STATE, Heads::busyWithoutSaved, h -> h.undo());
        Check.dueRefused("undo behind keep", Check.STATE, StateSentencesTest::newHeadWithSnapshot, h -> h.undo());
        Check.dueRefused("undo behind looks and texts", Check.STATE, () -> Heads.typed("empty"), h -> h.undo());
        Check.dueRefused("undo of a refused call", Check.STATE, StateSentencesTest::behindARefusedCall,
            h -> h.undo());
    }

    private static HeadDots behindARefusedCall() {
        HeadDots head = new HeadDots();
        for (Named call : REFUSED) {
            throwsIt(call, head);
        }
        return head;
    }

    private static void takesASnapshot() {
        Check.holds("Promise 13", "Takes a snapshot, in place of the one before.");
        HeadDots head = new HeadDots();
        head.keep();
        head.line(1);
        head.keep();
        head.line(2);
        Check.due("restore of the later one", 1, head.restore());
        Check.due("its line", 1, head.kept(0, 0));
        Check.due("keep is not undoable", 3, head.count(18));
        HeadDots kept = Heads.fullStrip();
        kept.keep();
        kept.lines(ALL, 20);
        kept.paper(2);
        kept.set(1, 5);
        kept.rest(999);
        kept.restore();
        Check.due("all of it", Check.stateOf(Heads.fullStrip()), Check.stateOf(kept));
    }

    private static void linesSoFar() {
        Check.holds("Promise 13", "Returns how many lines were printed so far.");
        HeadDots head = new HeadDots();
        Check.due("none", 0, head.keep());
        head.line(0);
        Check.due("one", 1, head.keep());
        head.lines(ALL, 20);
        Check.due("21", 21, head.keep());
        head.paper(0);
        Check.due("not those of the strip", 21, head.keep());
        head.undo();
        head.undo();
        Check.due("behind undo", 1, head.keep());
    }

    private static void restoresTheSnapshot() {
        Check.holds("Promise 14", "Restores the state of the snapshot, which stays. Undoable.");
        for (int round = 0; round < 2; round++) {
            HeadDots head = Heads.fullStrip();
            head.keep();
            head.lines(0x5a5a5a, 7);
            for (int i = 0; i <= round; i++) {
                head.restore();
                head.line(ALL);
                head.undo();
            }
            Check.due("restored " + (round + 1) + " times", Check.stateOf(Heads.fullStrip()), Check.stateOf(head));
        }
        HeadDots head = new HeadDots();
        head.keep();
        head.restore();
        Check.due("saved, also if nothing is changed", 1, head.count(18));
        head.line(ALL);
        head.restore();
        Check.due("what is printed behind restore does not change the snapshot", 0, head.count(1));
        head.undo();
        Check.due("undo of restore", 1, head.count(1));
        Check.due("the snapshot stays behind undo", 0, head.restore());
    }

    private static void linesSoFarThen() {
        Check.holds("Promise 14", "Returns how many lines were printed so far then.");
        HeadDots head = new HeadDots();
        head.keep();
        head.lines(0, 20);
        Check.due("none", 0, head.restore());
        head.lines(0, 20);
        head.keep();
        head.line(0);
        Check.due("twenty", 20, head.restore());
        Check.due("twenty again", 20, head.restore());
    }

    private static void noSnapshot() {
        Check.holds("Promise 14", "Throws `IllegalStateException` if there is no snapshot");
        Check.dueRefused("restore of a new head", Check.STATE, HeadDots::new, h -> h.restore());
        Check.dueRefused("restore with saved states", Check.STATE, Heads::withoutSnapshot, h -> h.restore());
        HeadDots head = Heads.withoutSnapshot();
        Check.dueText("restore", Check.STATE, Check.outcome(head::restore));
        head.keep();
        Check.dueText("restore behind keep", "3", Check.outcome(head::restore));
    }

    public static void main(String[] args) {
        Check.runAll(
            StateSentencesTest::savesTheStateBefore,
            StateSentencesTest::savesAll,
            StateSentencesTest::butTheBuffer,
            StateSentencesTest::butTheSavedStates,
            StateSentencesTest::andTheSnapshot,
            StateSentencesTest::sixStates,
            StateSentencesTest::changesNothing,
            StateSentencesTest::namedFirst,
            StateSentencesTest::noneIsMinusOne,
            StateSentencesTest::looksChangeNothing,
            StateSentencesTest::restoresTheLatest,
            StateSentencesTest::statesThatAreLeft,
            StateSentencesTest::noSavedState,
            StateSentencesTest::takesASnapshot,
            StateSentencesTest::linesSoFar,
            StateSentencesTest::restoresTheSnapshot,
            StateSentencesTest::linesSoFarThen,
            StateSentencesTest::noSnapshot);
        Check.namesNoBoundary("Exceptions", "Ahead of the calls `line`, `lines`, `rest`, `paper`, `set` the interface"
            + " says: ---- printing.");
        Check.namesNoBoundary("Exceptions", "Ahead of the calls `append`, `clearBuffer`, `firstError`, `print`, `told`"
            + " the interface says: ---- texts.");
        Check.namesNoBoundary("Exceptions", "Ahead of the calls `undo`, `keep`, `restore` the interface says: ---- undo,"
            + " the snapshot.");
        Check.dueAllHeld("Undo, the snapshot", "Exceptions", "Promise 12", "Promise 13", "Promise 14");
        Check.end();
    }
}
