/** The example of README.md. */
public final class Example {
    /** Puts a text on THE TAPE, which is empty, and tells it as TEXT k. */
    static int tell(QuillDesk x, int k, String text) {
        for (int i = 0; i < text.length(); i += 20) {
            int[] five = new int[5];
            for (int j = 0; j < 20; j++) {
                int b = i + j < text.length() ? text.charAt(i + j) : ' ';
                five[j / 4] = five[j / 4] << 8 | b;
            }
            x.feed(five[0], five[1], five[2], five[3], five[4]);
        }
        x.end(text.length());
        return x.text(k);
    }

    public static void main(String[] args) {
        QuillDesk x = new QuillDesk();
        int quill = x.quill(3, 50);
        int clerk = x.clerk(5);
        int first = x.deed(20);
        int second = x.deed(9);
        tell(x, 2, "bird 3 wild 1 fine 6;");
        tell(x, 3, "deed 1 after 0;");
        tell(x, 1, "at 4 clerk 0 cut; at 4 clerk 0 write 1;");
        int lines = tell(x, 0, "lifts 0; blots 0; writes 7 - worn when ink > 9; writes 1;");
        System.out.println("THE LAW has " + lines + " lines");

        x.act(0, clerk, quill);
        x.act(2, clerk, first);
        System.out.println("he would write " + x.who(clerk, 5) + " lines in an hour");
        System.out.println("the second deed is done behind " + x.done(second) + " hours");
        System.out.println("in three hours he writes " + x.hours(3));
        for (int i = 0; i < x.look(6); i++) {
            System.out.println("hour " + x.book(i, 0) + ": what " + x.book(i, 1) + ", who " + x.book(i, 2) + ", how much " + x.book(i, 3));
        }

        x.image(true);
        x.hours(3);
        System.out.println("deeds done: " + x.look(4));
        x.undo();
        System.out.println("deeds done an hour before: " + x.look(4));
        x.image(false);
        System.out.println("gone back to hour " + x.look(5));

        int bad = tell(x, 0, "writes 7 / 0;");
        System.out.println("a bad text: " + bad + ", fault " + x.fault(0) + " at " + x.fault(1) + "; THE LAW has " + x.look(8) + " lines still");
        x.letters(12);
        x.letters(8);
        x.letters(6);
        System.out.println("a page of width 20: " + x.page(20, 0) + " in " + x.page(20, 1) + " lines");
        System.out.println("a quill that can't be: " + x.quill(8, 50));
    }
}
