import java.util.ArrayList;
import java.util.List;

/** The edges of UNDO and THE IMAGE, promises 43 and 44. */
final class PastEdges {
    /** What does not forget what can be undone, each with what it answers on the busy desk. */
    private static final String[] KEEPS = {"tell(0, 'writes 1;') = 2", "tell(0, 'writes;') = NONE", "text(7) = NONE", "text(-1) = NONE",
        "feed(1, 2, 3, 4, 5) = 29", "end(3) = true", "end(10) = false", "image(true) = true",
        "letters(3) = 4", "letters(NONE) = 0", "letters(0) = NONE", "stamp(3) = 3", "stamp(NONE) = 0", "stamp(0) = NONE", "dot(1, 5, 5) = true",
        "dot(3, 5, 5) = false", "cut(3) = 3", "cut(NONE) = 0", "cut(30) = NONE",
        "sign(3) = 4", "sign(NONE) = 0", "sign(10) = NONE", "leg(3) = 3", "leg(0) = 0", "leg(180) = NONE", "weight(3) = 3", "weight(NONE) = 0",
        "weight(0) = NONE", "heir(3) = 4", "heir(NONE) = 0", "heir(0) = NONE",
        "quill(8, 0) = NONE", "clerk(10) = NONE", "deed(0) = NONE", "set(0, 0, 100) = false", "set(3, 0, 0) = false", "act(0, 0, 0) = false",
        "act(1, 1, 0) = false", "act(2, 0, 0) = false", "act(3, 1, 0) = false", "act(4, 1, 0) = false",
        "hours(0) = NONE", "hours(61) = NONE", "goes(60, 0) = 46", "done(0) = 1", "soon(1, 0) = 106", "look(5) = 4", "of(0, 0) = 3", "who(0, 5) = 7",
        "deedOf(0, 0) = 20", "book(0, 0) = 0", "fault(0) = 2"};

    private PastEdges() { }

    static void all() {
        howMany();
        eachGoesBack();
        hourGoesBack();
        whatForgets();
        whatKeeps();
        imageTaken();
        imageHolds();
        fullImage();
    }

    private static void howMany() {
        Edges.unchanged(43, "false if there is nothing", Edges.EMPTY, "undo() = false");
        Edges.unchanged(43, "false, changing nothing, if all that was kept is undone", Edges.after("calm()", "4 times undo()"), "undo() = false");
        Edges.unchanged(43, "false, changing nothing, if it was forgotten", Edges.after("calm()", "hours(3)", "state(7)"), "undo() = false");
        Edges.edge(43, "6 are kept: five, six, seven HOURS", "hours(5)", "look(12) = 5", "hours(1)", "look(12) = 6", "hours(1)", "look(12) = 6",
            "6 times undo() = true", "look(5) = 1", "undo() = false", "look(5) = 1", "look(12) = 0");
        Edges.edge(43, "6 are kept: sixty HOURS are sixty", "hours(60)", "look(12) = 6", "6 times undo() = true", "look(5) = 54", "undo() = false");
        Edges.edge(43, "each true one leaves one less", "hours(3)", "undo() = true", "look(12) = 2", "look(5) = 2", "undo() = true", "look(12) = 1",
            "undo() = true", "look(12) = 0", "look(5) = 0", "undo() = false");
        Edges.edge(43, "the latest not undone yet: what is done anew comes behind", "hours(6)", "4 times undo() = true", "look(5) = 2", "hours(3)",
            "look(12) = 5", "5 times undo() = true", "look(5) = 0", "undo() = false");
        Edges.edge(43, "6 are kept, whatever was undone ahead of them", "hours(9)", "2 times undo() = true", "look(12) = 4", "hours(9)", "look(12) = 6",
            "6 times undo() = true", "look(5) = 10", "undo() = false");
        Edges.edge(43, "an undone one can't be undone", "hours(1)", "undo() = true", "undo() = false", "look(5) = 0");
    }

    private static void eachGoesBack() {
        Edges.edge(43, "TAKING goes back", "quill(1, 1)", "clerk(1)", "act(0, 0, 0) = true", "look(12) = 1", "undo() = true", "who(0, 1) = NONE",
            "of(0, 4) = NONE");
        Edges.edge(43, "DROPPING goes back", "quill(1, 1)", "clerk(1)", "act(0, 0, 0)", "act(1, 0, 0) = true", "look(12) = 2", "undo() = true", "who(0, 1) = 0",
            "of(0, 4) = 0");
        Edges.edge(43, "GOING goes back: from none, from one, to none", "deed(1)", "deed(1)", "clerk(1)", "act(2, 0, 0)", "act(2, 0, 1)", "act(2, 0, NONE)",
            "look(12) = 3", "undo() = true", "who(0, 2) = 1", "undo() = true", "who(0, 2) = 0", "undo() = true", "who(0, 2) = NONE");
        Edges.edge(43, "DIPPING goes back", "quill(1, 17)", "clerk(1)", "act(0, 0, 0)", "act(3, 0, 0) = true", "look(12) = 2", "of(0, 1) = 99", "undo() = true",
            "of(0, 1) = 17", "who(0, 1) = 0");
        Edges.edge(43, "CUTTING goes back", "quill(1, 17)", "clerk(1)", "set(1, 0, 8)", "act(0, 0, 0)", "act(4, 0, 0) = true", "look(12) = 2", "of(0, 2) = 0",
            "undo() = true", "of(0, 2) = 8", "who(0, 1) = 0");
        Edges.edge(43, "what went back can be done again", "quill(1, 17)", "clerk(1)", "act(0, 0, 0)", "undo()", "act(0, 0, 0) = true", "act(3, 0, 0)",
            "undo()", "act(3, 0, 0) = true", "of(0, 1) = 99");
    }

    private static void hourGoesBack() {
        Edges.edge(43, "HOUR goes back: WRITTEN, INK, WORN, BY, SIGNED, AT, HOUR, THE BOOK", "one()", "hours(6)", "hours(1) = 2", "look(4) = 1",
            "undo() = true", "look(4) = 0", "deedOf(0, 1) = 18", "deedOf(0, 2) = NONE", "of(0, 1) = 22", "of(0, 2) = 6",
            "who(0, 4) = 0", "who(0, 2) = 0", "look(5) = 6", "look(6) = 6", "book(6, 0) = NONE");
        Edges.edge(43, "HOUR goes back: BLOTS, STATE", "one()", "tell(0, 'lifts 0;blots 1000;')", "state(77)", "hours(1)", "who(0, 3) = 1", "undo() = true",
            "who(0, 3) = 0", "look(7) = 77", "of(0, 1) = 40", "look(6) = 0");
        Edges.edge(43, "HOUR goes back: GONE, LIFTED, HOLDS", "one()", "tell(0, 'lifts 1000;')", "hours(1)", "look(3) = 1", "undo() = true", "look(3) = 0",
            "of(0, 3) = 0", "who(0, 1) = 0", "of(0, 4) = 0", "look(7) = 0");
        Edges.edge(43, "HOUR goes back, what ORDERS did in it, too", "quill(0, 5)", "clerk(0)", "deed(50)",
            "tell(1, 'at 0 clerk 0 take 0;at 0 clerk 0 dip;at 0 clerk 0 write 0;')", "hours(1)", "who(0, 2) = 0", "undo() = true", "who(0, 1) = NONE",
            "who(0, 2) = NONE", "of(0, 1) = 5", "hours(1)", "who(0, 1) = 0");
        Edges.edge(43, "HOUR goes back, and comes once more as it came", r -> {
            List<String> first = new ArrayList<>();
            List<String> second = new ArrayList<>();
            r.all("one()", "tell(0, 'lifts 300;blots 500;writes 2;')", "hours(4)");
            Edges.firm(r, first);
            r.all("4 times undo() = true", "look(7) = 0", "look(6) = 0", "hours(4)");
            Edges.firm(r, second);
            r.due("as it came", first.equals(second) ? 1 : 0, 1);
        });
        Edges.edge(43, "THE BOOK goes back from full", "one()", "tell(0, 'lifts 0;blots 1000;')", "set(0, 0, 99)", "hours(60)", "hours(39)", "act(3, 0, 0)",
            "hours(50)", "look(6) = 149", "tell(0, 'lifts 0;blots 0;writes 99;')", "hours(1) = 20", "look(6) = 150",
            "undo() = true", "look(6) = 149", "book(149, 0) = NONE", "undo() = true", "look(6) = 148", "tell(0, 'lifts 0;blots 1000;')", "hours(3)",
            "look(6) = 150", "book(149, 0) = 149", "book(149, 1) = 1");
        Edges.edge(43, "THE BOOK was full: it stays so", "one()", "tell(0, 'lifts 0;blots 1000;')", "set(0, 0, 99)", "hours(60)", "hours(39)", "act(3, 0, 0)",
            "hours(58)", "look(6) = 150", "6 times undo() = true", "look(6) = 150", "look(5) = 151", "book(149, 0) = 149");
        Edges.edge(43, "from HOUR 9999 back", "166 times hours(60)", "hours(39)", "hours(1) = NONE", "undo() = true", "look(5) = 9998", "hours(2) = NONE",
            "hours(1) = 0", "look(5) = 9999");
        Edges.edge(43, "THE LAW, BIRDS, AFTER told since stay", "calm()", "hours(1)", "tell(0, 'writes 9;')", "tell(2, 'bird 3 wild 1 fine 1;')",
            "tell(3, 'deed 1 after 0;')", "undo() = true", "deedOf(0, 1) = 0", "who(0, 5) = 9", "of(0, 5) = 1", "deedOf(1, 3) = 1");
        Edges.edge(43, "the fourteenth, the tenth, the twelfth go back, too", "14 times quill(1, 9)", "10 times clerk(0)", "12 times deed(9)",
            "tell(0, 'lifts 1000 when hand=1;lifts 0;blots 0;writes 9;')", "act(0, 9, 13)", "act(2, 9, 11)", "hours(1) = 9", "deedOf(11, 2) = 9",
            "undo() = true",
            "deedOf(11, 1) = 0", "deedOf(11, 2) = NONE", "of(13, 1) = 9", "of(13, 2) = 0", "who(9, 4) = 0", "who(9, 2) = 11", "undo() = true",
            "who(9, 2) = NONE", "undo() = true", "of(13, 4) = NONE");
    }

    private static void whatForgets() {
        String[] forgets = {"state(0)", "state(1196435762)", "quill(1, 1) = 4", "clerk(1) = 3", "deed(1) = 4", "set(0, 0, 5) = true", "set(1, 0, 5) = true",
            "set(2, 0, 5) = true", "image(false) = true"};
        for (String call : forgets) Edges.edge(43, "whatever else is told forgets them: " + call, "busy()", "look(12) = 6", call, "look(12) = 0",
            "undo() = false");
        Edges.edge(43, "whatever else is told forgets them: ORDERS", "busy()", "end(0)", "tell(1, 'at 9 clerk 0 rest;') = 1", "look(12) = 0", "undo() = false");
        Edges.edge(43, "whatever else is told forgets them: ORDERS without a line", "busy()", "end(0)", "text(1) = 0", "look(12) = 0", "undo() = false");
        Edges.edge(43, "what comes then can be undone", "busy()", "state(0)", "hours(1)", "look(12) = 1", "undo() = true", "look(5) = 4", "undo() = false");
    }

    private static void whatKeeps() {
        for (String call : KEEPS) Edges.edge(43, "(.. do not) forget them: " + call, "busy()", "look(12) = 6", call, "look(12) = 6", "6 times undo() = true",
            "look(5) = 1");
        Edges.edge(43, "THE LAW, BIRDS, AFTER do not forget them", "busy()", "end(0)", "tell(0, 'writes 1;') = 1", "look(12) = 6",
            "tell(2, 'bird 1 wild 1 fine 1;') = 1", "look(12) = 6", "tell(3, 'deed 1 after 0;') = 1", "look(12) = 6", "text(0) = 0", "text(2) = 0",
            "text(3) = 0", "look(12) = 6", "undo() = true");
        Edges.edge(43, "a text with a FAULT does not: of ORDERS, too", "busy()", "text(1) = NONE", "look(12) = 6", "fault(0) = 1", "tell(1, 'at 1000') = NONE",
            "fault(0) = 2", "look(12) = 6", "tell(2, 'x') = NONE", "tell(3, 'x') = NONE", "look(12) = 6", "undo() = true");
        Edges.edge(43, "what is refused does not: full rows, no IMAGE", "14 times quill(1, 1)", "10 times clerk(1)", "12 times deed(1)", "hours(2)",
            "quill(1, 1) = NONE", "clerk(1) = NONE", "deed(1) = NONE", "image(false) = false", "act(5, 0, 0) = false", "look(12) = 2", "undo() = true");
        Edges.edge(43, "what is refused does not: HOURS at the end, a full TAPE", "166 times hours(60)", "hours(39)", "hours(1) = NONE",
            "20 times feed(0, 0, 0, 0, 0)", "feed(0, 0, 0, 0, 0) = NONE", "look(12) = 6", "undo() = true", "look(5) = 9998");
    }

    private static void imageTaken() {
        Edges.unchanged(44, "false if there is none", Edges.EMPTY, "image(false) = false");
        Edges.unchanged(44, "false if there is none, whatever is on the desk", Edges.after("one()", "hours(3)", "fed('x')"), "image(false) = false");
        Edges.edge(44, "of an empty desk: all is gone then", "image(true) = true", "calm()", "hours(2)", "state(5)", "tell(1, 'at 9 clerk 0 rest;')",
            "tell(2, 'bird 1 wild 1 fine 1;')", "tell(3, 'deed 1 after 0;')", "letters(5)", "stamp(5)", "dot(1, 5, 5)", "cut(5)", "sign(5)", "leg(5)",
            "weight(5)", "heir(5)",
            "image(false) = true", "look(0) = 0", "look(1) = 0", "look(2) = 0", "look(4) = 0", "look(5) = 0", "look(6) = 0", "look(7) = 0", "look(8) = 0",
            "look(9) = 0", "look(10) = 0", "look(11) = 0", "look(12) = 0", "of(0, 0) = -2", "who(0, 0) = -2", "deedOf(0, 0) = -2", "book(0, 0) = NONE",
            "letters(5) = 1", "stamp(5) = 1", "dots(0) = 1", "cut(5) = 1", "sign(5) = 1", "leg(5) = 1", "weight(5) = 1", "heir(5) = 1", "quill(7, 7) = 0",
            "of(0, 2) = 0", "of(0, 4) = NONE", "clerk(1) = 0", "who(0, 1) = NONE", "who(0, 3) = 0", "deed(4) = 0", "deedOf(0, 1) = 0",
            "deedOf(0, 2) = NONE");
        Edges.edge(44, "taken once more: the latest is it", "hours(1)", "image(true) = true", "hours(1)", "image(true) = true", "hours(1)",
            "image(false) = true", "look(5) = 2");
        Edges.edge(44, "gone back to it may be more than once", "one()", "image(true)", "hours(3)", "image(false) = true", "look(5) = 0", "image(false) = true",
            "look(5) = 0", "hours(1) = 3", "image(false) = true", "deedOf(0, 1) = 0", "look(6) = 0", "hours(1) = 3");
        Edges.edge(44, "as it was when it was taken: what is undone then is not undone in it", "one()", "hours(2)", "image(true)", "undo()", "undo()",
            "deedOf(0, 1) = 0", "image(false)", "deedOf(0, 1) = 6", "look(5) = 2", "look(6) = 2", "book(1, 3) = 3");
        Edges.edge(44, "(nothing then) can be undone; taking it leaves what can", "calm()", "look(12) = 4", "image(true)", "look(12) = 4", "undo() = true",
            "image(false)", "look(12) = 0", "undo() = false");
        Edges.edge(44, "all but the TAPE: it stays as it is", "one()", "fed('writes 8;')", "image(true)", "end(0)", "fed('writes 9')", "image(false)",
            "end(9) = false", "end(8) = true", "fed(';')", "text(0) = 1", "who(0, 5) = 9");
        Edges.edge(44, "all but fault(): it stays as it is", "tell(0, 'writes 1/0;')", "image(true)", "tell(0, 'x')", "image(false)", "fault(0) = 1",
            "fault(1) = 0", "text(0) = 0", "image(false)", "fault(0) = 0", "fault(1) = NONE");
    }

    private static void imageHolds() {
        Edges.edge(44, "all that is and was told, busy as the desk was", r -> {
            Run other = new Run();
            other.all("busy()", "end(0)", "text(7)", "state(1196435762)", "image(true)");
            r.all("busy()", "end(0)", "text(7)", "state(1196435762)", "image(true)", "quill(1, 1)", "deed(1)", "set(0, 1, 1)", "set(1, 1, 1)", "set(2, 1, 1)",
                "act(2, 2, 3)", "hours(9)", "tell(0, 'writes 1;')", "tell(1, 'at 1 clerk 0 dip;')", "text(2)", "text(3)",
                "letters(1)", "stamp(NONE)", "dot(2, 9, 9)", "cut(1)", "sign(NONE)", "leg(-1)", "weight(NONE)", "heir(1)", "text(7)", "image(false)");
            r.due("as it was", Edges.whole(r).equals(Edges.whole(other)) ? 1 : 0, 1);
        });
    }

    /** The last place of each row of the desk is held, too. */
    private static void fullImage() {
        Edges.edge(44, "the fourteenth QUILL, the tenth CLERK, the twelfth DEED", "13 times quill(1, 1)", "quill(7, 50)", "10 times clerk(0)",
            "11 times deed(1)", "deed(98)", "set(1, 13, 7)", "set(2, 9, 8)", "act(0, 9, 13)", "act(2, 9, 11)", "tell(0, 'lifts 0;blots 0;writes 5;')",
            "hours(1)", "image(true)",
            "tell(0, 'lifts 0;blots 1000;')", "hours(2)", "act(2, 9, 0)", "act(1, 9, 0)", "set(2, 9, 1)", "tell(0, 'lifts 0;blots 0;writes 98;')",
            "act(0, 9, 0)", "act(2, 9, 10)", "hours(1)", "image(false)",
            "of(13, 0) = 7", "of(13, 1) = 45", "of(13, 2) = 8", "of(13, 4) = 9", "who(9, 0) = 8", "who(9, 1) = 13", "who(9, 2) = 11", "who(9, 3) = 0",
            "who(9, 4) = 0", "deedOf(11, 0) = 98", "deedOf(11, 1) = 5", "deedOf(11, 2) = NONE", "deedOf(10, 2) = NONE", "look(4) = 0");
        Edges.edge(44, "THE BOOK as it was, though other lines have been written in its place", "calm()", "hours(1) = 11", "image(true)", "undo()",
            "act(1, 0, 0)", "act(2, 1, NONE)", "hours(1) = 0", "act(2, 1, 0)", "tell(0, 'lifts 0;blots 1000;')", "hours(2) = 0",
            "book(0, 0) = 1", "book(0, 1) = 1", "book(0, 2) = 1", "book(1, 0) = 2", "image(false)", "look(6) = 2", "book(0, 0) = 0", "book(0, 1) = 0",
            "book(0, 2) = 0", "book(0, 3) = 6", "book(1, 0) = 0", "book(1, 1) = 0", "book(1, 2) = 1", "book(1, 3) = 5", "book(2, 0) = NONE");
        Edges.edge(44, "the 150th line of THE BOOK", "one()", "tell(0, 'lifts 0;blots 1000;')", "set(0, 0, 99)", "hours(60)", "hours(39)", "act(3, 0, 0)",
            "hours(50)", "look(6) = 149", "tell(0, 'lifts 0;blots 0;writes 7;')", "hours(1)", "look(6) = 150", "image(true)",
            "undo()", "tell(0, 'lifts 1000;')", "hours(1)", "book(149, 1) = 2", "image(false)", "look(6) = 150", "book(149, 0) = 149", "book(149, 1) = 0",
            "book(149, 2) = 0", "book(149, 3) = 7");
        String line = "bird 1 wild 1 fine 1;";
        Edges.edge(44, "the sixteenth line of each TEXT", "3 times deed(1)", "clerk(0)", "quill(2, 9)",
            "tell(2, '" + line.repeat(15) + "bird 2 wild 8 fine 7;') = 16", "tell(3, '" + "deed 1 after 0;".repeat(15) + "deed 2 after 1;') = 16",
            "tell(1, '" + "at 0 clerk 0 rest;".repeat(15) + "at 0 clerk 0 take 0;') = 16", "tell(0, '" + "lifts 1;".repeat(15) + "writes 77;') = 16",
            "image(true)",
            "tell(2, '" + line.repeat(16) + "') = 16", "tell(3, '" + "deed 1 after 0;".repeat(16) + "') = 16",
            "tell(1, '" + "at 0 clerk 0 rest;".repeat(16) + "') = 16", "tell(0, '" + "lifts 1;".repeat(16) + "') = 16", "of(0, 5) = 0", "deedOf(2, 3) = 0",
            "who(0, 5) = 1", "image(false)",
            "of(0, 5) = 8", "of(0, 6) = 7", "deedOf(2, 3) = 2", "who(0, 5) = 77", "hours(1)", "who(0, 1) = 0");
        Edges.edge(44, "a LAW of 400 bytes", "clerk(0)", "tell(0, 'writes 0" + "+0".repeat(194) + "+7;') = 1", "who(0, 5) = 7", "image(true)",
            "tell(0, 'writes 1" + "+1".repeat(195) + ";') = 1", "who(0, 5) = 99", "image(false)", "who(0, 5) = 7");
        Edges.edge(44, "the last of each row that is told for thought", "10 times letters(20)", "stamp(6)", "stamp(6)", "stamp(6)", "stamp(5)", "dot(2, 9, 99)",
            "dot(1, 9, 0)", "cut(1)", "cut(2)", "cut(3)", "cut(4)", "cut(5)", "cut(6)", "cut(59)", "11 times sign(9)", "sign(1)", "9 times leg(1)", "leg(20)",
            "7 times weight(1)", "weight(9)", "5 times heir(1)", "heir(50)", "image(true)",
            "letters(NONE)", "10 times letters(1)", "stamp(NONE)", "4 times stamp(6)", "dot(2, 0, 0)", "dot(1, 0, 9)", "cut(NONE)", "cut(1)", "cut(2)",
            "cut(3)", "cut(4)", "cut(5)", "cut(6)", "cut(7)", "sign(NONE)", "12 times sign(9)", "leg(0)", "10 times leg(1)", "weight(NONE)",
            "8 times weight(1)", "heir(NONE)", "6 times heir(1)", "image(false)",
            "page(20, 1) = 10", "letters(1) = NONE", "stamps(0) = 19", "stamp(1) = NONE", "dots(0) = 10", "dots(2) = 891", "planks(60, 0) = 130",
            "planks(60, 1) = 6", "cut(8) = NONE", "read(0) = 11", "sign(1) = NONE", "line(0) = 29", "leg(1) = NONE", "weight(1) = NONE", "seal(55, 5) = 50",
            "seal(55, 0) = 1", "heir(1) = NONE", "lift(12, 0) = 8");
    }
}
