/** The document's "Input text", and promises 7 to 11: each sentence with its boundaries. */
public final class TextSentencesTest {
    private static final String HEX = "0123456789abcdef";

    /** Behind the text, which is no error, of all characters these alone are no errors. */
    private static void dueNext(String text, String allowed) {
        for (int code = 33; code <= 126; code++) {
            HeadDots head = Heads.typed(text);
            Check.due("firstError of " + text, text.length(), head.firstError());
            head.append(code);
            int due = text.length() + (allowed.indexOf(code) < 0 ? 0 : 1);
            Check.due("firstError of " + text + (char) code, due, head.firstError());
        }
    }

    /** Each character of the word is the only one that is no error there. */
    private static void dueWord(String ahead, String word) {
        for (int i = 1; i < word.length(); i++) {
            dueNext(ahead + word.substring(0, i), word.substring(i, i + 1));
        }
    }

    private static void dueComplete(String text, int lines) {
        HeadDots head = Heads.typed(text);
        Check.due("firstError of " + text, text.length(), head.firstError());
        Check.dueText("print of " + text, Integer.toString(lines), Check.outcome(head::print));
        Check.due("lines behind " + text, lines, head.count(1));
        Check.due("the buffer behind " + text, 0, head.clearBuffer());
    }

    private static void dueIncomplete(String text) {
        Check.due("firstError of " + text, text.length(), Heads.typed(text).firstError());
        Check.dueRefused("print of " + text, Check.ARGUMENT, () -> Heads.busyWith(text), HeadDots::print);
    }

    private static void dueError(String text, int at) {
        HeadDots head = Heads.typed(text);
        Check.due("firstError of " + text, at, head.firstError());
        Check.due("firstError of " + text + " again", at, head.firstError());
        Check.dueRefused("print of " + text, Check.ARGUMENT, () -> Heads.busyWith(text), HeadDots::print);
    }

    private static void bufferOfSixty() {
        Check.holds("Input text", "The buffer has at most 60 characters.");
        HeadDots head = new HeadDots();
        for (int length = 1; length <= 60; length++) {
            Check.dueText("append", Integer.toString(length), Check.outcome(() -> head.append('x')));
        }
        Check.dueText("the 61st", Check.STATE, Check.outcome(() -> head.append('x')));
        Check.due("the length then", 60, head.clearBuffer());
        Check.dueText("append to the buffer that was cleared", "1", Check.outcome(() -> head.append('x')));
    }

    private static void partsBetweenSemicolons() {
        Check.holds("Input text", "Prints as a text are one or more parts with \";\" between them, each a word, and"
            + " what belongs to it:");
        dueIncomplete("");
        dueComplete("empty", 1);
        dueComplete("empty;empty", 2);
        dueComplete("rest1;paper:fine;line000000;empty", 2);
        dueIncomplete("empty;");
        dueIncomplete("rest1;");
        dueIncomplete("line000000;");
        dueIncomplete("line000000*3;");
        dueIncomplete("paper:label;");
        dueError(";", 0);
        dueError(";empty", 0);
        dueError("empty;;empty", 6);
        dueError("empty;;", 6);
        dueError("empty,empty", 5);
        dueError("empty:empty", 5);
        dueNext("", "lpre");
        dueNext("empty;", "lpre");
        dueNext("rest9;", "lpre");
    }

    private static void linesOfATextInDigits() {
        Check.holds("Input text", "\"line\", and six signs, \"0\" to \"9\" or \"a\" to \"f\" (a number to the base"
            + " 16), as line00ff0f,");
        dueWord("", "line");
        for (String digits : new String[] {"", "0", "f9", "a0b", "1234", "fffff"}) {
            dueNext("line" + digits, HEX);
        }
        dueNext("line00ff0f", "*;");
        dueNext("lineffffff", "*;");
        dueNext("empty;line000000", "*;");
        dueIncomplete("line");
        dueIncomplete("line00000");
        dueError("line0000000", 10);
        dueError("line00FF0F", 6);
        String[] digits = {"000000", "000001", "800000", "ffffff", "00ff0f", "abcdef", "987654", "90000a"};
        for (String six : digits) {
            HeadDots head = Heads.typed("line" + six);
            Check.due("print of line" + six, 1, head.print());
            Check.due("the dots of line" + six, Integer.parseInt(six, 16), head.kept(0, 0) | head.kept(0, 1));
        }
    }

    private static void soManySuchLines() {
        Check.holds("Input text", "and perhaps \"*\" and 1 to 20 (so many such lines);");
        dueNext("line00ff0f*", "123456789");
        dueNext("line00ff0f*1", "0123456789;");
        dueNext("line00ff0f*2", "0;");
        for (int number = 3; number <= 20; number++) {
            dueNext("line00ff0f*" + number, ";");
        }
        for (int times = 1; times <= 20; times++) {
            dueComplete("line00ff0f*" + times, times);
        }
        dueComplete("line00ff0f", 1);
        dueComplete("line00ff0f*20;line000001;line00000f*2", 23);
        dueIncomplete("line00ff0f*");
        dueError("line00ff0f*0", 11);
        dueError("line00ff0f*21", 12);
        dueError("line00ff0f*30", 12);
        dueError("line00ff0f*100", 13);
        dueError("line00ff0f*200", 13);
        dueError("line00ff0f**2", 11);
        dueError("line00ff0f*2*2", 12);
        dueError("line00ff0f*;", 11);
        HeadDots head = Heads.typed("line00ff0f*2");
        head.print();
        Check.due("the first of two", 0x00ff0f, head.kept(1, 0) | head.kept(1, 1));
        Check.due("the second of two", 0x00ff0f, head.kept(0, 0) | head.kept(0, 1));
    }

    private static void papersOfAText() {
        Check.holds("Input text", "\"paper\", \":\", and \"plain\", \"fine\" or \"label\";");
        dueWord("", "paper:");
        dueNext("paper:", "pfl");
        dueWord("paper:", "plain");
        dueWord("paper:", "fine");
        dueWord("paper:", "label");
        String[] names = {"plain", "fine", "label"};
        for (int paper = 0; paper < 3; paper++) {
            dueNext("paper:" + names[paper], ";");
            dueComplete("paper:" + names[paper], 0);
            dueIncomplete("paper:" + names[paper].substring(0, names[paper].length() - 1));
            HeadDots head = Heads.busyWith("paper:" + names[paper]);
            head.print();
            Check.due("the paper " + names[paper], paper, head.count(9));
            Check.due("the strip is new", 0, head.count(10));
        }
        dueIncomplete("paper");
        dueIncomplete("paper:");
        dueError("paperplain", 5);
        dueError("paper:plain*2", 11);
        dueError("paper:0", 6);
    }

    private static void restsOfAText() {
        Check.holds("Input text", "\"rest\", and milliseconds, 1 to 999 (that pass);");
        dueWord("", "rest");
        dueNext("rest", "123456789");
        for (String digits : new String[] {"1", "9", "10", "99", "50"}) {
            dueNext("rest" + digits, "0123456789;");
        }
        for (String digits : new String[] {"100", "999", "500", "990"}) {
            dueNext("rest" + digits, ";");
        }
        for (int time : new int[] {1, 9, 10, 11, 99, 100, 101, 998, 999}) {
            dueComplete("rest" + time, 0);
            HeadDots head = Heads.busyWith("rest" + time);
            int before = head.count(0);
            int waits = head.count(3);
            head.print();
            Check.due("the time of rest" + time, time, head.count(0) - before);
            Check.due("no wait of rest" + time, waits, head.count(3));
        }
        HeadDots head = Heads.withHeat(0, 100);
        Check.type(head, "rest99");
        head.print();
        Check.due("the heat behind rest99", 1, head.count(7));
        dueIncomplete("rest");
        dueError("rest0", 4);
        dueError("rest1000", 7);
        dueError("rest9990", 7);
        dueError("rest-1", 4);
        dueError("rest1*2", 5);
    }

    private static void emptyLinesOfAText() {
        Check.holds("Input text", "or \"empty\" (a line of no dots).");
        dueWord("", "empty");
        dueNext("empty", ";");
        dueComplete("empty", 1);
        dueIncomplete("empt");
        dueError("empty*2", 5);
        HeadDots head = Heads.typed("line000001;empty");
        Check.due("print", 2, head.print());
        Check.due("its dots", 0, head.kept(0, 0) | head.kept(0, 1));
        Check.due("its parts", 0, head.kept(0, 2));
        Check.due("it is the last line", 0, head.dot(0, 1));
        Check.due("the other one is the line before", 1, head.dot(0, 2));
        Check.due("the feed passes", 13 + 5 + 5, head.count(0));
    }

    private static void noLeadingZero() {
        Check.holds("Input text", "Numbers of lines and milliseconds are without a leading zero.");
        dueError("line00ff0f*01", 11);
        dueError("line00ff0f*020", 11);
        dueError("line00ff0f*00", 11);
        dueError("rest01", 4);
        dueError("rest001", 4);
        dueError("rest0999", 4);
        dueError("empty;rest05;empty", 10);
        dueComplete("line00ff0f*10", 10);
        dueComplete("rest100", 0);
        dueComplete("line000000", 1);
    }

    private static String partOfLength(int length) {
        switch (length) {
            case 6: return "rest1;";
            case 7: return "rest10;";
            case 8: return "rest100;";
            default: return "line000000;";
        }
    }

    /** A text of 60 characters with this end, and whole parts ahead of it. */
    private static String sixtyWith(String end) {
        StringBuilder text = new StringBuilder();
        int left = 60 - end.length();
        while (left > 17) {
            text.append(partOfLength(6));
            left -= 6;
        }
        int first = left == 17 ? 6 : left / 2;
        return text.append(partOfLength(first)).append(partOfLength(left - first)).append(end).toString();
    }

    private static void readFromLeftToRight() {
        Check.holds("Input text", "The buffer is read from left to right; a character is a syntax error if no prints"
            + " as a text, of any length, begin with the characters before it and this character.");
        String[] ends = {"l", "line", "line00000", "line000000*", "p", "paper:", "r", "rest", "e", "empt", ""};
        for (String end : ends) {
            Check.due("length", 60, sixtyWith(end).length());
            dueIncomplete(sixtyWith(end));
        }
        for (String end : new String[] {"x", "0", "linx", "line00000G", "line000000*0", "rest0", ";"}) {
            dueError(sixtyWith(end), 59);
        }
        dueError("empty;xempty;y", 6);
        dueError("xline000000", 0);
        dueError("restrest1", 4);
        dueError("line00g00h", 6);
        dueError("empty1;rest0;;", 5);
        dueError("LINE000000", 0);
        dueError("lineline000000", 4);
        dueError("linE000000", 3);
    }

    private static void appending() {
        Check.holds("Promise 7", "Appends a character to the buffer.");
        long exclamation = Heads.typed("a!").digest();
        for (int code = 33; code <= 126; code++) {
            HeadDots head = Heads.typed("a");
            Check.due("append " + code, 2, head.append(code));
            Check.due("the last code, with which the digest ends", code, head.digest() - exclamation + '!');
        }
        Check.due("the order of two codes", 31 - 1, Heads.typed("ba").digest() - Heads.typed("ab").digest());
        Check.due("no state is saved", 0, Heads.typed("abc").count(18));
    }

    private static void codes() {
        Check.holds("Promise 7", "`code`: the character code, 33 to 126");
        Check.due("33", 1, new HeadDots().append(33));
        Check.due("126", 1, new HeadDots().append(126));
    }

    private static void newLength() {
        Check.holds("Promise 7", "Returns the new length of the buffer.");
        HeadDots head = new HeadDots();
        for (int length = 1; length <= 60; length++) {
            Check.due("append", length, head.append(126));
        }
        head.clearBuffer();
        Check.due("append to the buffer that was cleared", 1, head.append(33));
        HeadDots printed = Heads.typed("empty");
        printed.print();
        Check.due("append to the buffer that was printed", 1, printed.append(33));
    }

    private static void wrongCodes() {
        Check.holds("Promise 7", "Throws `IllegalArgumentException` if code is not 33 to 126");
        for (int code : new int[] {32, 127, 0, -1, 10, 128, 255, 256 + 65, 65536 + 65, Integer.MIN_VALUE,
            Integer.MAX_VALUE}) {
            Check.dueRefused("append " + code, Check.ARGUMENT, Heads::busy, h -> h.append(code));
            Check.dueRefused("append " + code + " to a full buffer", Check.ARGUMENT, Heads::busyAndFull,
                h -> h.append(code));
        }
    }

    private static void fullBuffer() {
        Check.holds("Promise 7", "Throws `IllegalStateException` if the buffer has 60 characters");
        for (int code : new int[] {33, 59, 126}) {
            Check.dueRefused("append " + code, Check.STATE, Heads::busyAndFull, h -> h.append(code));
        }
        HeadDots head = Heads.busyAndFull();
        head.clearBuffer();
        Check.type(head, sixtyWith("empty").substring(0, 59));
        Check.dueText("the 60th", "60", Check.outcome(() -> head.append('y')));
        Check.due("it is a text", 60, head.firstError());
    }

    private static void clearing() {
        Check.holds("Promise 8", "Clears the buffer.");
        HeadDots head = Heads.busyAndFull();
        head.clearBuffer();
        Check.due("a character of the new buffer is no error", 1, head.append('r'));
        Check.due("firstError", 1, head.firstError());
        head.clearBuffer();
        Check.dueSame("but for the buffer nothing is changed", Heads.busyWith(""), head);
        HeadDots empty = new HeadDots();
        empty.clearBuffer();
        Check.dueSame("clearing an empty buffer", new HeadDots(), empty);
    }

    private static void lengthThatItHad() {
        Check.holds("Promise 8", "Returns the length that it had.");
        HeadDots head = new HeadDots();
        Check.due("empty", 0, head.clearBuffer());
        head.append('x');
        Check.due("one", 1, head.clearBuffer());
        Check.due("then empty", 0, head.clearBuffer());
        Check.due("full", 60, Heads.busyAndFull().clearBuffer());
        HeadDots printed = Heads.typed("empty");
        printed.print();
        Check.due("printed", 0, printed.clearBuffer());
    }

    private static void firstErrors() {
        Check.holds("Promise 9", "Finds the first syntax error of the buffer.");
        dueError("x", 0);
        dueError("xx", 0);
        dueError("lx", 1);
        dueError("lineX;xx", 4);
        dueError("empty;;;", 6);
        Check.dueLook("firstError of no error", () -> Heads.busyWith("line00"), HeadDots::firstError);
        Check.dueLook("firstError of an error", () -> Heads.busyWith("line0x"), HeadDots::firstError);
    }

    private static void indexOfTheError() {
        Check.holds("Promise 9", "Returns the index of the first character that is a syntax error; the length of the"
            + " buffer if there is none.");
        Check.due("an empty buffer", 0, new HeadDots().firstError());
        Check.due("the first character of one", 0, Heads.typed("!").firstError());
        Check.due("none of one", 1, Heads.typed("l").firstError());
        Check.due("the last character of 60", 59, Heads.typed(sixtyWith("!")).firstError());
        Check.due("none of 60", 60, Heads.typed(sixtyWith("empty")).firstError());
        Check.due("none of 60 that are not complete", 60, Heads.typed(sixtyWith("p")).firstError());
        Check.due("the first character of 60", 0, Heads.typed("!" + sixtyWith("!").substring(1)).firstError());
        HeadDots head = Heads.typed("!");
        head.clearBuffer();
        Check.due("an error that was cleared", 0, head.firstError());
        head.append('e');
        Check.due("no error behind one that was cleared", 1, head.firstError());
    }

    private static void doesWhatTheBufferTells() {
        Check.holds("Promise 10", "Does what the buffer tells, part by part, and clears it. (All parts are possible.)");
        HeadDots head = Heads.busyWith("line0000ff*3;rest12;paper:fine;empty;linefff000");
        HeadDots other = Heads.busy();
        head.print();
        other.lines(0x0000ff, 3);
        other.rest(12);
        other.paper(1);
        other.line(0);
        other.line(0xfff000);
        Check.due("as the calls do", Check.stateOf(other), Check.stateOf(head));
        Check.due("the buffer is clear", 0, head.clearBuffer());
        HeadDots last = Heads.typed("line000001;paper:label");
        last.print();
        Check.due("a paper at the end leaves no line", 0, last.count(10));
        HeadDots first = Heads.typed("paper:label;line000001");
        first.print();
        Check.due("a paper ahead of a line: 145 is faint", 1, first.kept(0, 1));
        HeadDots hot = Heads.typed("line800001*20;lineffffff*20;line123456*20;lineffffff;empty");
        hot.set(0, 300);
        hot.set(2, 330);
        hot.set(4, 1);
        Check.dueText("long waits", "62", Check.outcome(hot::print));
    }

    private static void undoableAsOneCall() {
        Check.holds("Promise 10", "Undoable, as one call.");
        HeadDots head = Heads.typed("line0000ff*3;rest12;paper:fine;empty");
        head.print();
        Check.due("saved states", 1, head.count(18));
        Check.due("undo", 0, head.undo());
        Check.dueSame("undone", new HeadDots(), head);
        HeadDots same = Heads.typed("paper:plain");
        same.print();
        Check.due("saved states, also if nothing is changed", 1, same.count(18));
    }

    private static void linesThatArePrinted() {
        Check.holds("Promise 10", "Returns how many lines are printed.");
        dueComplete("rest1", 0);
        dueComplete("paper:plain", 0);
        dueComplete("empty", 1);
        dueComplete("line000000*20", 20);
        dueComplete("lineffffff*20;lineffffff*20;lineffffff*20;lineffffff*20", 80);
        dueComplete("empty;paper:fine;empty", 2);
        dueComplete(sixtyWith("line0000ff*9"), 9);
        HeadDots head = Heads.busyWith("empty;line000001*2");
        Check.due("not those before", 3, head.print());
    }

    private static void notComplete() {
        Check.holds("Promise 10", "Throws `IllegalArgumentException` if the buffer is not complete prints as a text"
            + " (the buffer stays)");
        String[] texts = {
            "", "l", "line", "line12345", "line123456*", "p", "paper", "paper:", "paper:fin", "r", "rest",
            "e", "empt", "empty;", "rest1;", "line123456;", "paper:plain;", "line123456*20;", "empty;l",
        };
        for (String text : texts) {
            dueIncomplete(text);
            HeadDots head = Heads.typed(text);
            Check.dueText("print of " + text, Check.ARGUMENT, Check.outcome(head::print));
            Check.due("the buffer stays", text.length(), head.clearBuffer());
        }
        dueError("empty;line000000*5;x", 19);
        dueError("empty~", 5);
        HeadDots head = Heads.typed("line000001*1");
        head.append('z');
        Check.dueText("print of an error", Check.ARGUMENT, Check.outcome(head::print));
        Check.due("the buffer stays", 13, head.clearBuffer());
        Check.due("no line is printed", 0, head.count(1));
        Check.due("no state is saved", 0, head.count(18));
        HeadDots printed = Heads.typed("empty");
        printed.print();
        Check.dueText("print again, of an empty buffer", Check.ARGUMENT, Check.outcome(printed::print));
    }

    private static void characterOfALine() {
        Check.holds("Promise 11", "Returns a character of a line of the strip, told as a text.");
        HeadDots head = Heads.fullStrip();
        Check.due("the length of a line of 24 parts", 24 + 23, Check.told(head, 0).length());
        Check.dueText("line 1", ".......................#", Check.told(head, 1));
        Check.dueText("line 2", "##.....................#||", Check.told(head, 2));
        Check.dueText("line 3", "........................", Check.told(head, 3));
        Check.dueLook("told", Heads::fullStrip, h -> h.told(0, 30));
    }

    private static void latestLine() {
        Check.holds("Promise 11", "`back`: 0 for the latest line, and so on, to 11");
        HeadDots head = new HeadDots();
        for (int i = 0; i < 12; i++) {
            head.line(1 << i);
        }
        Check.due("the latest one", '#', head.told(0, 11));
        Check.due("the latest one", '.', head.told(0, 10));
        Check.due("the line 11", '#', head.told(11, 0));
        Check.due("the line 11", '.', head.told(11, 1));
    }

    private static void indexOfACharacter() {
        Check.holds("Promise 11", "`index`: 0 or more");
        Check.due("index 0", '#', linesOfParts(1).told(0, 0));
        Check.dueText("the greatest index", "-1", Check.outcome(() -> linesOfParts(1).told(0, Integer.MAX_VALUE)));
    }

    /** The last line has this many parts (0 to 24), of a dot each. */
    private static HeadDots linesOfParts(int parts) {
        HeadDots head = new HeadDots();
        head.set(3, 20);
        head.set(4, 20);
        head.line((1 << parts) - 1);
        return head;
    }

    private static void noneOfALine() {
        Check.holds("Promise 11", "Returns the code of the character at this index of the text, from 0; NONE if it has"
            + " not so many, or not so many lines are kept.");
        for (int parts = 0; parts <= 24; parts++) {
            HeadDots head = linesOfParts(parts);
            int length = 24 + Math.max(0, parts - 1);
            Check.due(parts + " parts: the last dot", parts == 24 ? '#' : '.', head.told(0, 23));
            Check.due(parts + " parts: the last character", parts > 1 ? '|' : '.', head.told(0, length - 1));
            Check.due(parts + " parts: behind it", HeadDots.NONE, head.told(0, length));
            Check.due(parts + " parts: far behind it", HeadDots.NONE, head.told(0, 1000000));
            Check.due(parts + " parts: not so many lines", HeadDots.NONE, head.told(1, 0));
            Check.due(parts + " parts: not so many lines", HeadDots.NONE, head.told(11, 0));
        }
        Check.due("none is kept", HeadDots.NONE, new HeadDots().told(0, 0));
        HeadDots eleven = new HeadDots();
        eleven.lines(1, 11);
        Check.due("11 lines: the oldest one", '#', eleven.told(10, 0));
        Check.due("11 lines: none behind it", HeadDots.NONE, eleven.told(11, 0));
        eleven.line(1);
        Check.due("12 lines: the oldest one", '#', eleven.told(11, 0));
        eleven.paper(0);
        Check.due("a new strip", HeadDots.NONE, eleven.told(0, 0));
    }

    private static void wrongBackOrIndex() {
        Check.holds("Promise 11", "Throws `IllegalArgumentException` if back is out of range, or index is below 0");
        for (int number : Heads.FAR) {
            Check.dueRefused("told(" + number + ", 0)", Check.ARGUMENT, Heads::busy, h -> h.told(number, 0));
        }
        Check.dueRefused("told(12, 0)", Check.ARGUMENT, Heads::busy, h -> h.told(12, 0));
        Check.dueRefused("told(12, 0) of a new head", Check.ARGUMENT, HeadDots::new, h -> h.told(12, 0));
        Check.dueRefused("told(0, -1)", Check.ARGUMENT, Heads::busy, h -> h.told(0, -1));
        Check.dueRefused("told(0, -1) of a new head", Check.ARGUMENT, HeadDots::new, h -> h.told(0, -1));
        Check.dueRefused("told(11, least)", Check.ARGUMENT, Heads::busy, h -> h.told(11, Integer.MIN_VALUE));
        Check.dueRefused("told(-1, -1)", Check.ARGUMENT, Heads::busy, h -> h.told(-1, -1));
    }

    public static void main(String[] args) {
        Check.runAll(
            TextSentencesTest::bufferOfSixty,
            TextSentencesTest::partsBetweenSemicolons,
            TextSentencesTest::linesOfATextInDigits,
            TextSentencesTest::soManySuchLines,
            TextSentencesTest::papersOfAText,
            TextSentencesTest::restsOfAText,
            TextSentencesTest::emptyLinesOfAText,
            TextSentencesTest::noLeadingZero,
            TextSentencesTest::readFromLeftToRight,
            TextSentencesTest::appending,
            TextSentencesTest::codes,
            TextSentencesTest::newLength,
            TextSentencesTest::wrongCodes,
            TextSentencesTest::fullBuffer,
            TextSentencesTest::clearing,
            TextSentencesTest::lengthThatItHad,
            TextSentencesTest::firstErrors,
            TextSentencesTest::indexOfTheError,
            TextSentencesTest::doesWhatTheBufferTells,
            TextSentencesTest::undoableAsOneCall,
            TextSentencesTest::linesThatArePrinted,
            TextSentencesTest::notComplete,
            TextSentencesTest::characterOfALine,
            TextSentencesTest::latestLine,
            TextSentencesTest::indexOfACharacter,
            TextSentencesTest::noneOfALine,
            TextSentencesTest::wrongBackOrIndex);
        Check.dueAllHeld("Input text", "Promise 7", "Promise 8", "Promise 9", "Promise 10", "Promise 11");
        Check.end();
    }
}
