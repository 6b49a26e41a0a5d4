/** How to use HeadDots; README.md shows this program and what it prints. */
public final class Example {
    public static void main(String[] args) {
        HeadDots head = new HeadDots();

        // Lines are told by numbers: bit d is the dot d.
        head.set(4, 40);                                // 40 watts, 8 for a dot: 5 dots at once
        System.out.println("would take " + head.ifPrinted(0xff00ff, 0));
        System.out.println("took " + head.line(0xff00ff) + ", parts " + head.kept(0, 2));
        System.out.println(text(head, 0));

        // Prints as a text go into the buffer a character at a time.
        for (char c : "line00ff0f*3;rest20;empty;linefg".toCharArray()) {
            head.append(c);
        }
        System.out.println("error at " + head.firstError());
        head.clearBuffer();
        for (char c : "line00ff0f*3;rest20;empty".toCharArray()) {
            head.append(c);
        }
        System.out.println("printed " + head.print());  // it clears the buffer, too
        System.out.println(text(head, 1));

        // The text was one call, and is undone as one; a snapshot brings back what undo can't.
        head.keep();
        System.out.println("saved states left " + head.undo() + ", lines " + head.count(1));
        System.out.println("lines of the snapshot " + head.restore());

        // A call that is refused changes nothing.
        try {
            head.dot(24, 0);
        } catch (IndexOutOfBoundsException e) {
            System.out.println("no dot 24");
        }
    }

    /** A line of the strip: "#" is dark, "+" is faint, and "|" is one more part. */
    private static String text(HeadDots head, int back) {
        StringBuilder signs = new StringBuilder();
        for (int i = 0; head.told(back, i) != HeadDots.NONE; i++) {
            signs.append((char) head.told(back, i));
        }
        return signs.toString();
    }
}
