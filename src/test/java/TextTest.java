/** Promises 7 to 11: append, clearBuffer, firstError, print, told. */
public final class TextTest {
    private static void appending() {
        HeadDots head = new HeadDots();
        Check.due("lowest code", 1, head.append(33));
        Check.due("highest code", 2, head.append(126));
        Check.dueThrow("32", Check.ARGUMENT, head, () -> head.append(32));
        Check.dueThrow("127", Check.ARGUMENT, head, () -> head.append(127));
        Check.dueThrow("-1", Check.ARGUMENT, head, () -> head.append(-1));
        for (int length = 3; length <= 60; length++) {
            Check.due("append", length, head.append('a'));
        }
        Check.dueThrow("the 61st", Check.STATE, head, () -> head.append('a'));
        Check.dueThrow("the 61st, and a wrong code", Check.ARGUMENT, head, () -> head.append(32));
        Check.due("appending is not undoable", 0, head.count(18));
        Check.due("clearBuffer", 60, head.clearBuffer());
        Check.due("clearBuffer again", 0, head.clearBuffer());
        Check.due("firstError of none", 0, head.firstError());
        Check.due("clearing is not undoable", 0, head.count(18));
        Check.due("room again", 1, head.append('a'));
    }

    /** The error is at the index of the mark "!" (which is taken out), or there is none. */
    private static void error(String marked) {
        int due = marked.indexOf('!');
        String text = marked.replace("!", "");
        HeadDots head = new HeadDots();
        Check.type(head, text);
        Check.due("firstError of " + text, due < 0 ? text.length() : due, head.firstError());
        Check.due("firstError again", due < 0 ? text.length() : due, head.firstError());
        if (due >= 0) {
            Check.dueThrow("print of " + text, Check.ARGUMENT, head, head::print);
        }
    }

    private static void incomplete(String text) {
        error(text);
        HeadDots head = new HeadDots();
        Check.type(head, text);
        Check.dueThrow("print of " + text, Check.ARGUMENT, head, head::print);
        Check.due("the buffer stays", text.length(), head.clearBuffer());
        Check.due("nothing is saved", 0, head.count(18));
    }

    private static void errors() {
        String[] marked = {
            "!x", "!Line", "!;", "!*", "!0", "l!l", "li!mit", "lin!f", "line!g", "line00FF0f".replace("FF", "!FF"),
            "line!*", "line12345!;", "line12345!*1", "line123456!7", "line123456!a", "line123456*!0",
            "line123456*!;", "line123456**".replace("**", "*!*"), "line123456*1!x", "line123456*2!1",
            "line123456*20!0", "line123456*3!0", "line123456*9!9", "line123456*10!1", "line123456*!a",
            "paper!;", "paper!p", "paper:!;", "paper:!x", "paper:p!p", "paper:plain!s", "paper:plai!m",
            "paper:fine!r", "paper:f!l", "paper:label!;".replace("!;", "!:"), "paper:la!in", "paper:!P",
            "rest!0", "rest!;", "rest!a", "rest1!a", "rest100!0", "rest999!9", "rest12!*", "res!s",
            "empty!e", "empty!1", "empty!*2", "em!my", "empty;!;", "empty;!x", "empty!,empty",
            "rest5;rest!05", "line000000*20;line!G", "paper:fine;paper:!1",
        };
        for (String text : marked) {
            error(text);
        }
    }

    private static void notComplete() {
        String[] texts = {
            "", "l", "line", "line1", "line12345", "line123456*", "p", "paper", "paper:", "paper:p",
            "paper:fin", "paper:labe", "r", "rest", "e", "empt", "empty;", "rest1;", "line123456;",
            "paper:plain;", "empty;empty;", "line123456*20;r", "empty;paper:",
        };
        for (String text : texts) {
            incomplete(text);
        }
    }

    private static int print(HeadDots head, String text) {
        Check.type(head, text);
        Check.due("firstError of " + text, text.length(), head.firstError());
        int lines = head.print();
        Check.due("the buffer is clear", 0, head.clearBuffer());
        return lines;
    }

    /** A text does what the calls do. */
    private static void printing() {
        HeadDots head = new HeadDots();
        Check.due("a line", 1, print(head, "line00ff0f"));
        Check.due("its dots", 0x00ff0f, head.kept(0, 0));
        Check.due("twenty lines", 20, print(head, "lineabcdef*20"));
        Check.due("its dots", 0xabcdef, head.kept(0, 0));
        for (int times = 1; times <= 20; times++) {
            Check.due(times + " lines", times, print(head, "line000000*" + times));
        }
        Check.due("an empty line", 1, print(head, "empty"));
        Check.due("its parts", 0, head.kept(0, 2));
        int time = head.count(0);
        Check.due("rest 1", 0, print(head, "rest1"));
        Check.due("rest 10", 0, print(head, "rest10"));
        Check.due("rest 999", 0, print(head, "rest999"));
        Check.due("time of the rests", time + 1010, head.count(0));
        String[] papers = {"plain", "fine", "label"};
        for (int paper = 2; paper >= 0; paper--) {
            Check.due("paper", 0, print(head, "paper:" + papers[paper]));
            Check.due("the paper", paper, head.count(9));
            Check.due("a new strip", 0, head.count(10));
            print(head, "empty");
        }
    }

    private static void manyParts() {
        HeadDots head = new HeadDots();
        HeadDots other = new HeadDots();
        Check.due("parts", 5, print(head, "line0000ff*3;rest12;paper:fine;empty;linefff000"));
        other.lines(255, 3);
        other.rest(12);
        other.paper(1);
        other.line(0);
        other.line(0xfff000);
        int[] same = {0, 1, 2, 3, 4, 6, 7, 8, 9, 10};
        for (int what : same) {
            Check.due("count " + what, other.count(what), head.count(what));
        }
        Check.due("kept", other.kept(0, 0), head.kept(0, 0));
        Check.due("kept", other.kept(1, 2), head.kept(1, 2));
        Check.due("one state is saved", 1, head.count(18));
        Check.type(head, "rest7");
        Check.due("undo of all parts", 0, head.undo());
        Check.due("lines", 0, head.count(1));
        Check.due("time", 0, head.count(0));
        Check.due("paper", 0, head.count(9));
        Check.due("the buffer is not undone", 5, head.clearBuffer());
        HeadDots longest = new HeadDots();
        String text = "line000001*20;line000001*20;line000001*20;empty;empty;empty;".substring(0, 59);
        Check.due("59 characters", 63, print(longest, text));
        Check.due("60 characters", 1, print(longest,
            "rest1;rest1;rest1;rest1;rest1;rest1;rest1;rest1;rest11;empty"));
    }

    private static void telling() {
        HeadDots head = new HeadDots();
        head.set(3, 20);
        head.set(4, 40);
        head.set(0, 112);
        head.line(0b10000011);
        // dots 0 and 1 have a neighbour and so a pulse of 107; dot 7 has 112
        Check.dueText("told", "++.....#................|", Check.told(head, 0));
        head.line(0);
        Check.dueText("told of no dots", "........................", Check.told(head, 0));
        Check.dueText("told of the line before", "++.....#................|", Check.told(head, 1));
        Check.due("beyond its text", HeadDots.NONE, head.told(1, 25));
        Check.due("the last dot", '.', head.told(1, 23));
        Check.due("the part", '|', head.told(1, 24));
        Check.due("far beyond", HeadDots.NONE, head.told(1, Integer.MAX_VALUE));
        Check.due("not so many lines", HeadDots.NONE, head.told(2, 0));
        head.set(0, 300);
        head.set(4, 1);
        head.line(16777215);
        Check.dueText("24 parts", "########################|||||||||||||||||||||||", Check.told(head, 0));
        head.set(4, 200);
        head.set(3, 1);
        head.lines(1 << 23, 11);
        Check.dueText("the latest one", ".......................#", Check.told(head, 0));
        Check.dueText("the oldest one", "########################|||||||||||||||||||||||", Check.told(head, 11));
        head.line(0);
        Check.dueText("the oldest one", ".......................#", Check.told(head, 11));
        Check.dueThrow("back -1", Check.ARGUMENT, head, () -> head.told(-1, 0));
        Check.dueThrow("back 12", Check.ARGUMENT, head, () -> head.told(12, 0));
        Check.dueThrow("index -1", Check.ARGUMENT, head, () -> head.told(0, -1));
        Check.dueThrow("index -1 of a line that is not kept", Check.ARGUMENT, new HeadDots(),
            () -> new HeadDots().told(11, Integer.MIN_VALUE));
    }

    public static void main(String[] args) {
        appending();
        errors();
        notComplete();
        printing();
        manyParts();
        telling();
        Check.end();
    }
}
