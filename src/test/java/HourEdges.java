/** The edges of DRAWS, of Terms 3 (AN HOUR, THE BOOK) and of promises 8 and 16. */
final class HourEdges {
    private static final String[] TEN_BLOT = {"10 times quill(0, 99)", "10 times clerk(0)", "deed(99)", "tell(0, 'lifts 0;blots 1000;')",
        "act(0, 0, 0)", "act(0, 1, 1)", "act(0, 2, 2)", "act(0, 3, 3)", "act(0, 4, 4)", "act(0, 5, 5)", "act(0, 6, 6)", "act(0, 7, 7)", "act(0, 8, 8)",
        "act(0, 9, 9)",
        "act(2, 0, 0)", "act(2, 1, 0)", "act(2, 2, 0)", "act(2, 3, 0)", "act(2, 4, 0)", "act(2, 5, 0)", "act(2, 6, 0)", "act(2, 7, 0)", "act(2, 8, 0)",
        "act(2, 9, 0)"};

    private HourEdges() { }

    static void all() {
        howMany();
        draws();
        whatIsDrawn();
        ordersInTime();
        ordersThatCannotBe();
        ordersThatCan();
        whoseTurn();
        lifts();
        blots();
        lines();
        worn();
        signed();
        book();
        fullBook();
    }

    private static void howMany() {
        Edges.edge(8, "HOURS go by (1 .. 60): both ends", "hours(1) = 0", "look(5) = 1", "hours(60) = 0", "look(5) = 61");
        Edges.unchanged(8, "NONE, and nothing is done, if n can't be", Edges.BUSY, "hours(0) = NONE", "hours(-1) = NONE", "hours(61) = NONE",
            "hours(MIN) = NONE", "hours(MAX) = NONE");
        Edges.edge(8, "HOUR 0 .. 9999: to 9999 by sixty", "166 times hours(60)", "21 times undo()", "look(5) = 9954", "hours(45) = 0", "look(5) = 9999");
        Edges.edge(8, "HOUR 0 .. 9999: sixty from 9939", "165 times hours(60)", "hours(39) = 0", "hours(60) = 0", "look(5) = 9999");
        Edges.unchanged(8, "NONE, and nothing is done, if HOUR would be above 9999: sixty from 9940", Edges.after("one()", "165 times hours(60)", "hours(40)",
            "act(2, 0, NONE)"), "hours(60) = NONE");
        Edges.unchanged(8, "NONE, and nothing is done, at 9999", Edges.after("one()", "act(2, 0, NONE)", "166 times hours(60)", "hours(39)", "act(2, 0, 0)"),
            "hours(1) = NONE", "hours(60) = NONE", "hours(0) = NONE", "hours(MAX) = NONE", "hours(MIN) = NONE");
        Edges.edge(8, "HOUR 9999 is reached by one, too, and not left", "166 times hours(60)", "hours(38)", "hours(1) = 0", "look(5) = 9999", "hours(1) = NONE",
            "look(5) = 9999");
        Edges.edge(8, "how many lines were written: of all hours and all clerks", "calm()", "hours(2) = 13", "deedOf(0, 1) = 8", "deedOf(1, 1) = 5");
        Edges.edge(8, "how many lines were written: blots and lifts are none", "calm()", "tell(0, 'lifts 0;blots 1000 when hand=5;blots 0;')", "hours(1) = 5",
            "tell(0, 'lifts 1000;')", "hours(1) = 0");
    }

    private static long drawn(long state) {
        return (state * 1664525L + 1013904223L & 0xffffffffL) / 256 % 1000;
    }

    private static int stateThatDraws(int due) {
        int s = 0;
        while (drawn(s) != due) s++;
        return s;
    }

    private static void draws() {
        Edges.edge(8, "it becomes 1664525 times itself + 1013904223", "one()", "tell(0, 'lifts 1;blots 0;')", "hours(1)", "look(7) = 1013904223", "state(1)",
            "hours(1)", "look(7) = 1015568748");
        Edges.edge(8, "(ints, which wrap): from the ends of an int and beyond", "one()", "tell(0, 'lifts 1;blots 0;')", "state(MIN)", "hours(1)",
            "look(7) = -1133579425",
            "state(MAX)", "hours(1)", "look(7) = -1135243950", "state(-1)", "hours(1)", "look(7) = 1012239698", "state(1196435762)", "hours(1)",
            "look(7) = -775096599");
        int[] states = {0, 1, -1, Integer.MIN_VALUE, Integer.MAX_VALUE, 1196435762, stateThatDraws(0), stateThatDraws(999), stateThatDraws(1)};
        for (int s : states) {
            int draw = (int) drawn(s);
            Edges.edge(8, "highest 24 bits (without sign) modulo 1000: " + draw + " from STATE " + s + " is below " + (draw + 1), "one()",
                "tell(0, 'lifts " + (draw + 1) + ";')", "state(" + s + ")", "hours(1) = 0", "look(3) = 1");
            Edges.edge(8, "lifts, a DRAW of 1000: below it, so " + draw + " from STATE " + s + " is not below itself", "one()",
                "tell(0, 'lifts " + draw + ";blots 0;writes 3;')", "state(" + s + ")", "hours(1) = 3", "look(3) = 0");
            Edges.edge(8, "blots, a DRAW of 1000: below it, " + draw + " from STATE " + s, "one()",
                "tell(0, 'lifts 0;blots " + (draw + 1) + ";writes 3;')", "state(" + s + ")", "hours(1) = 0", "who(0, 3) = 1");
            Edges.edge(8, "blots: " + draw + " from STATE " + s + " is not below itself", "one()",
                "tell(0, 'lifts 0;blots " + draw + ";writes 3;')", "state(" + s + ")", "hours(1) = 3", "who(0, 3) = 0");
        }
    }

    private static void whatIsDrawn() {
        Edges.edge(8, "is it above 0, a DRAW: none at 0", "one()", "tell(0, 'lifts 0;blots 0;')", "state(9)", "hours(3)", "look(7) = 9");
        Edges.edge(8, "is it above 0, a DRAW: none below 0", "one()", "tell(0, 'lifts 0-1;blots 0-1000;writes 1;')", "state(9)", "hours(3) = 3", "look(7) = 9");
        Edges.edge(8, "is lifts above 0, a DRAW: one at 1", "one()", "tell(0, 'lifts 1;blots 0;')", "hours(1)", "look(7) = 1013904223");
        Edges.edge(8, "is blots above 0, a DRAW: one at 1", "one()", "tell(0, 'lifts 0;blots 1;')", "hours(1)", "look(7) = 1013904223");
        Edges.edge(8, "lifts, then blots: two DRAWS", "one()", "tell(0, 'lifts 1;blots 1;')", "hours(1)", "look(7) = 1196435762");
        Edges.edge(8, "a DRAW at 1000, too", "one()", "tell(0, 'lifts 0;blots 1000;')", "hours(1)", "look(7) = 1013904223");
        Edges.edge(8, "the QUILL lifts: blots draws no more", "one()", "tell(0, 'lifts 1000;blots 1000;')", "hours(1)", "look(7) = 1013904223",
            "who(0, 3) = 0");
        Edges.edge(8, "without INK lifts draws, blots does not", "one()", "set(0, 0, 0)", "tell(0, 'lifts 1;blots 1000;')", "hours(1)", "look(7) = 1013904223",
            "who(0, 3) = 0");
        Edges.edge(8, "whoever HOLDS no QUILL, is AT none, or waits draws nothing", "one()", "clerk(0)", "clerk(0)", "clerk(0)", "quill(0, 9)", "quill(0, 9)",
            "deed(5)", "tell(3, 'deed 1 after 0;')",
            "act(2, 0, NONE)", "act(2, 1, 0)", "act(0, 2, 1)", "act(0, 3, 2)", "act(2, 3, 1)", "tell(0, 'lifts 1000;')", "state(9)", "hours(9) = 0",
            "look(7) = 9", "look(3) = 0", "of(2, 2) = 0");
    }

    private static void ordersInTime() {
        Edges.edge(8, "ORDERS for it: HOUR 0, and no other", "quill(0, 9)", "clerk(0)", "tell(1, 'at 0 clerk 0 take 0;')", "hours(1)", "who(0, 1) = 0",
            "act(1, 0, 0)", "hours(60)", "who(0, 1) = NONE");
        Edges.edge(8, "ORDERS for it: HOUR 999, not 998, not 1000", "quill(0, 9)", "clerk(0)", "tell(1, 'at 999 clerk 0 take 0;')", "16 times hours(60)",
            "hours(39)", "look(5) = 999", "who(0, 1) = NONE",
            "hours(1)", "who(0, 1) = 0", "act(1, 0, 0)", "hours(60)", "who(0, 1) = NONE");
        Edges.edge(8, "Line by line: dropped, then taken by another one", "one()", "clerk(0)", "tell(1, 'at 0 clerk 0 drop;at 0 clerk 1 take 0;')", "hours(1)",
            "of(0, 4) = 1");
        Edges.edge(8, "Line by line: asked for before it is dropped", "one()", "clerk(0)", "tell(1, 'at 0 clerk 1 take 0;at 0 clerk 0 drop;')", "hours(1)",
            "of(0, 4) = NONE");
        Edges.edge(8, "Line by line: the sixteenth, too", r -> {
            StringBuilder b = new StringBuilder();
            for (int i = 0; i < 15; i++) b.append("at 0 clerk 0 rest;");
            r.all("quill(0, 9)", "clerk(0)", "tell(1, '" + b + "at 0 clerk 0 take 0;') = 16", "hours(1)", "who(0, 1) = 0");
        });
        Edges.edge(8, "ORDERS first, then CLERK by CLERK: in the same hour", "quill(0, 9)", "clerk(0)", "deed(20)", "tell(0, 'lifts 0;blots 0;writes 3;')",
            "tell(1, 'at 0 clerk 0 take 0;at 0 clerk 0 write 0;')", "hours(1) = 3");
        Edges.edge(8, "ORDERS are not by hand: an hour is one thing that can be undone", "quill(0, 9)", "clerk(0)",
            "tell(1, 'at 0 clerk 0 take 0;at 0 clerk 0 drop;at 0 clerk 0 take 0;')", "hours(1)", "look(12) = 1", "undo() = true", "who(0, 1) = NONE");
    }

    private static void ordersThatCannotBe() {
        Edges.edge(8, "take: not with a QUILL (else nothing)", "one()", "quill(0, 5)", "tell(1, 'at 0 clerk 0 take 1;')", "hours(1)", "who(0, 1) = 0",
            "of(1, 4) = NONE");
        Edges.edge(8, "take: not what is GONE", "one()", "tell(0, 'lifts 1000;')", "hours(1)", "of(0, 3) = 1", "tell(1, 'at 1 clerk 0 take 0;')", "hours(1)",
            "who(0, 1) = NONE", "of(0, 4) = NONE");
        Edges.edge(8, "take: not what somebody HOLDS", "one()", "clerk(0)", "tell(1, 'at 0 clerk 1 take 0;')", "hours(1)", "who(1, 1) = NONE", "of(0, 4) = 0");
        Edges.edge(8, "drop, dip, cut without a QUILL: nothing", "quill(0, 5)", "set(1, 0, 5)", "clerk(0)",
            "tell(1, 'at 0 clerk 0 drop;at 0 clerk 0 dip;at 0 clerk 0 cut;')", "hours(1)", "who(0, 1) = NONE", "of(0, 1) = 5", "of(0, 2) = 5");
        Edges.edge(8, "write: not at a DEED that is done: he is AT none still", "one()", "set(0, 0, 99)", "hours(7)", "look(4) = 1",
            "tell(1, 'at 7 clerk 0 write 0;')", "hours(1) = 0", "who(0, 2) = NONE");
        Edges.edge(8, "write: not at a DEED that is done: he is AT another one still", "one()", "deed(9)", "hours(7)", "act(2, 0, 1)",
            "tell(1, 'at 7 clerk 0 write 0;')", "hours(1) = 3", "who(0, 2) = 1", "deedOf(1, 1) = 3");
        Edges.edge(8, "write where he is, rest where he is not: nothing", "one()", "clerk(0)", "tell(1, 'at 0 clerk 0 write 0;at 0 clerk 1 rest;')",
            "hours(1) = 3", "who(0, 2) = 0", "who(1, 2) = NONE");
        Edges.edge(8, "no ORDERS of a CLERK move another one", "one()", "clerk(0)", "tell(1, 'at 0 clerk 1 drop;at 0 clerk 1 rest;at 0 clerk 1 cut;')",
            "set(1, 0, 5)", "hours(1) = 3", "who(0, 1) = 0", "who(0, 2) = 0", "of(0, 2) = 6");
    }

    private static void ordersThatCan() {
        Edges.edge(8, "take: with INK or without", "quill(0, 0)", "clerk(0)", "tell(1, 'at 0 clerk 0 take 0;')", "hours(1)", "who(0, 1) = 0");
        Edges.edge(8, "drop: he HOLDS none, and is AT his DEED", "one()", "tell(1, 'at 0 clerk 0 drop;')", "hours(1) = 0", "who(0, 1) = NONE", "who(0, 2) = 0",
            "of(0, 3) = 0");
        Edges.edge(8, "write: from one DEED to another, what it comes after done or not", "one()", "deed(5)", "tell(3, 'deed 1 after 0;')",
            "tell(1, 'at 0 clerk 0 write 1;')", "hours(1) = 0", "who(0, 2) = 1");
        Edges.edge(8, "rest: AT none, with his QUILL", "one()", "tell(1, 'at 0 clerk 0 rest;')", "hours(1) = 0", "who(0, 2) = NONE", "who(0, 1) = 0");
        Edges.edge(8, "dip: INK is 99, from 0", "one()", "set(0, 0, 0)", "act(2, 0, NONE)", "tell(1, 'at 0 clerk 0 dip;')", "hours(1)", "of(0, 1) = 99");
        Edges.edge(8, "dip: INK is 99, from 99", "one()", "set(0, 0, 99)", "act(2, 0, NONE)", "tell(1, 'at 0 clerk 0 dip;')", "hours(1)", "of(0, 1) = 99");
        Edges.edge(8, "cut: WORN is 0, from 99", "one()", "set(1, 0, 99)", "act(2, 0, NONE)", "tell(1, 'at 0 clerk 0 cut;')", "hours(1)", "of(0, 2) = 0",
            "of(0, 1) = 40");
        Edges.edge(8, "cut: WORN is 0, from 0", "one()", "act(2, 0, NONE)", "tell(1, 'at 0 clerk 0 cut;')", "hours(1)", "of(0, 2) = 0");
    }

    private static void whoseTurn() {
        Edges.edge(8, "CLERK who HOLDS a QUILL and is AT a DEED: one without the other writes nothing", "one()", "act(1, 0, 0)", "hours(1) = 0", "act(0, 0, 0)",
            "act(2, 0, NONE)", "hours(1) = 0", "of(0, 2) = 0", "look(6) = 0");
        Edges.edge(8, "behind which (by AFTER) all are done: not while one is not", "calm()", "tell(3, 'deed 1 after 0;')", "hours(1) = 6", "deedOf(1, 1) = 0",
            "of(1, 2) = 0", "of(1, 1) = 5");
        Edges.edge(8, "CLERK by CLERK: a DEED that is signed lets the next CLERK begin in that hour", "calm()", "tell(3, 'deed 1 after 0;')", "hours(1) = 6",
            "hours(1) = 7", "book(3, 0) = 1", "book(3, 2) = 1", "book(3, 3) = 5");
        Edges.edge(8, "CLERK by CLERK: one ahead of him waits an hour", "calm()", "act(2, 0, 1)", "act(2, 1, 0)", "set(0, 1, 99)",
            "tell(0, 'lifts 0;blots 0;writes 8;')", "tell(3, 'deed 1 after 0;')", "hours(1) = 8", "deedOf(1, 1) = 0", "hours(1) = 8", "deedOf(1, 1) = 8");
        Edges.edge(8, "CLERK by CLERK: what the first leaves is for the second", "calm()", "act(2, 1, 0)", "tell(0, 'lifts 0;blots 0;writes 5;')",
            "hours(1) = 8", "deedOf(0, 2) = 1", "of(0, 1) = 15", "of(1, 1) = 2");
        Edges.edge(8, "CLERK by CLERK: what the first finished the second does not touch", "calm()", "act(2, 1, 0)", "tell(0, 'lifts 0;blots 0;writes 8;')",
            "hours(1) = 8", "deedOf(0, 2) = 0", "of(1, 2) = 0", "look(6) = 2");
        Edges.edge(8, "a DEED told after AFTER comes after nothing", "one()", "deed(3)", "tell(3, 'deed 1 after 0;')", "deed(3) = 2", "act(2, 0, 2)",
            "hours(1) = 3");
    }

    private static void lifts() {
        Edges.edge(8, "the QUILL is GONE, LIFTED one more, he HOLDS none", "one()", "tell(0, 'lifts 1000;blots 1000;')", "hours(1) = 0", "of(0, 3) = 1",
            "look(3) = 1", "who(0, 1) = NONE", "of(0, 4) = NONE");
        Edges.edge(8, "and no more of it: INK, WORN, WRITTEN, BLOTS, AT as they were", "one()", "set(1, 0, 7)", "tell(0, 'lifts 1000;')", "hours(1) = 0",
            "of(0, 1) = 40", "of(0, 2) = 7", "deedOf(0, 1) = 0", "who(0, 3) = 0", "who(0, 2) = 0");
        Edges.edge(8, "it lifts without INK, too", "one()", "set(0, 0, 0)", "tell(0, 'lifts 1000;')", "hours(1) = 0", "of(0, 3) = 1");
        Edges.edge(8, "LIFTED is known to the next CLERK in that hour", "calm()", "tell(0, 'lifts 1000 when hand=5;lifts 0;blots 0;writes lifted+1;')",
            "hours(1) = 2");
        Edges.edge(8, "one that is GONE stays so", "one()", "tell(0, 'lifts 1000;')", "hours(9)", "look(3) = 1", "act(0, 0, 0) = false");
    }

    private static void blots() {
        Edges.edge(8, "BLOTS one more, INK one less, no line", "one()", "tell(0, 'lifts 0;blots 1000;')", "hours(1) = 0", "who(0, 3) = 1", "of(0, 1) = 39",
            "deedOf(0, 1) = 0", "of(0, 2) = 1");
        Edges.edge(8, "INK 1 is enough for a blot, then there is none", "one()", "set(0, 0, 1)", "tell(0, 'lifts 0;blots 1000;')", "hours(2) = 0",
            "who(0, 3) = 1", "of(0, 1) = 0", "of(0, 2) = 1", "look(6) = 1");
        Edges.edge(8, "has it INK (none: nothing more)", "one()", "set(0, 0, 0)", "tell(0, 'lifts 0;blots 1000;')", "hours(2) = 0", "who(0, 3) = 0",
            "of(0, 1) = 0", "of(0, 2) = 0", "look(6) = 0", "deedOf(0, 1) = 0");
        Edges.edge(8, "none: nothing more, not even a line", "one()", "set(0, 0, 0)", "hours(2) = 0", "of(0, 2) = 0", "deedOf(0, 1) = 0");
    }

    private static void lines() {
        Edges.edge(8, "as many lines as writes", "one()", "hours(1) = 3", "deedOf(0, 1) = 3", "of(0, 1) = 37");
        Edges.edge(8, "as many lines as INK has: one less than writes", "one()", "set(0, 0, 2)", "hours(1) = 2", "deedOf(0, 1) = 2", "of(0, 1) = 0");
        Edges.edge(8, "as many lines as INK has: just as many", "one()", "set(0, 0, 3)", "hours(1) = 3", "of(0, 1) = 0");
        Edges.edge(8, "as many lines as INK has: one more", "one()", "set(0, 0, 4)", "hours(1) = 3", "of(0, 1) = 1");
        Edges.edge(8, "as many lines as are left: one less than writes", "one()", "hours(6) = 18", "hours(1) = 2", "deedOf(0, 1) = 20", "of(0, 1) = 20",
            "deedOf(0, 2) = 0");
        Edges.edge(8, "as many lines as are left: just as many", "one()", "tell(0, 'lifts 0;blots 0;writes 20;')", "hours(1) = 20", "deedOf(0, 2) = 0",
            "of(0, 1) = 20");
        Edges.edge(8, "as many lines as are left: one more", "one()", "tell(0, 'lifts 0;blots 0;writes 19;')", "hours(1) = 19", "deedOf(0, 2) = NONE",
            "hours(1) = 1", "deedOf(0, 2) = 0");
        Edges.edge(8, "99 lines at once", "one()", "deed(99)", "act(2, 0, 1)", "set(0, 0, 99)", "tell(0, 'lifts 0;blots 0;writes 100;')", "hours(1) = 99",
            "look(4) = 2", "of(0, 1) = 0");
        Edges.edge(8, "no lines: writes 0 or below", "one()", "tell(0, 'lifts 0;blots 0;writes 0-5;')", "hours(1) = 0", "deedOf(0, 1) = 0", "of(0, 1) = 40",
            "look(6) = 0");
        Edges.edge(8, "writes is asked when it is his turn", "calm()", "act(2, 1, 0)", "tell(0, 'lifts 0;blots 0;writes left-4;')", "hours(1) = 4",
            "who(1, 5) = 0");
    }

    private static void worn() {
        Edges.edge(8, "WORN one more by lines, 99 at most", "one()", "set(1, 0, 98)", "hours(1)", "of(0, 2) = 99", "hours(1) = 3", "of(0, 2) = 99");
        Edges.edge(8, "WORN one more by a blot, 99 at most", "one()", "tell(0, 'lifts 0;blots 1000;')", "set(1, 0, 98)", "hours(1)", "of(0, 2) = 99",
            "hours(1)", "of(0, 2) = 99", "who(0, 3) = 2");
        Edges.edge(8, "WORN one more by no lines, 99 at most", "one()", "tell(0, 'lifts 0;blots 0;writes 0;')", "set(1, 0, 98)", "hours(1)", "of(0, 2) = 99",
            "hours(1)", "of(0, 2) = 99");
        Edges.edge(8, "WORN one more, not one for each line", "one()", "hours(1) = 3", "of(0, 2) = 1");
    }

    private static void signed() {
        Edges.edge(8, "Is all of it WRITTEN then: BY is he, SIGNED one more, he is AT none and HOLDS his QUILL", "one()", "hours(7) = 20", "deedOf(0, 2) = 0",
            "who(0, 4) = 1", "who(0, 2) = NONE", "who(0, 1) = 0", "look(4) = 1");
        Edges.edge(8, "one line is left: it is not done", "one()", "tell(0, 'lifts 0;blots 0;writes 19;')", "hours(1) = 19", "deedOf(0, 2) = NONE",
            "who(0, 4) = 0", "who(0, 2) = 0", "look(4) = 0");
        Edges.edge(8, "all who are AT it (with a QUILL or not) are AT none, nobody else", "one()", "clerk(0)", "clerk(0)", "clerk(0)", "quill(0, 5)", "deed(5)",
            "act(2, 1, 0)", "act(0, 2, 1)", "act(2, 2, 0)", "act(2, 3, 1)",
            "tell(0, 'lifts 0;blots 0;writes 20;')", "hours(1) = 20", "deedOf(0, 5) = 0", "who(0, 2) = NONE", "who(1, 2) = NONE", "who(2, 2) = NONE",
            "who(3, 2) = 1");
        Edges.edge(8, "BY the CLERK who wrote the last line, not the one who wrote most", "calm()", "hours(1) = 11", "act(2, 1, 0)", "act(2, 0, NONE)",
            "set(0, 1, 2)", "hours(1) = 2", "deedOf(0, 2) = 1", "who(1, 4) = 1", "who(0, 4) = 0");
        Edges.edge(8, "HOUR is one more, whatever was done", "one()", "hours(1) = 3", "look(5) = 1", "act(1, 0, 0)", "hours(1) = 0", "look(5) = 2");
    }

    private static void book() {
        Edges.edge(16, "what 0 HOUR, 1 what, 2 who, 3 how much: wrote, signed", "one()", "hours(7) = 20", "look(6) = 8", "book(6, 0) = 6", "book(6, 1) = 0",
            "book(6, 2) = 0", "book(6, 3) = 2",
            "book(7, 0) = 6", "book(7, 1) = 3", "book(7, 2) = 0", "book(7, 3) = 0");
        Edges.edge(16, "a blot: the DEED; lifted: the QUILL", "calm()", "tell(0, 'lifts 1000 when hand=5;lifts 0;blots 1000;')", "hours(1) = 0", "look(6) = 2",
            "book(0, 1) = 2", "book(0, 2) = 0", "book(0, 3) = 0", "book(1, 1) = 1", "book(1, 2) = 1", "book(1, 3) = 1");
        Edges.edge(16, "lines, if above 0: one is, none is not", "one()", "tell(0, 'lifts 0;blots 0;writes 1;')", "hours(1) = 1", "look(6) = 1",
            "tell(0, 'lifts 0;blots 0;writes 0;')", "hours(1) = 0", "look(6) = 1");
        Edges.edge(16, "an empty BOOK: NONE", "book(0, 0) = NONE", "book(0, 1) = NONE", "book(0, 2) = NONE", "book(0, 3) = NONE", "hours(1)",
            "book(0, 0) = NONE");
        Edges.edge(16, "the first and the last line, and none behind it", "one()", "hours(2)", "book(0, 0) = 0", "book(1, 0) = 1", "book(2, 0) = NONE");
        Edges.unchanged(16, "NONE if there is none such", Edges.BUSY, "book(6, 0) = NONE", "book(-1, 0) = NONE", "book(149, 1) = NONE", "book(150, 0) = NONE",
            "book(MIN, 2) = NONE", "book(MAX, 3) = NONE");
        Edges.unchanged(16, "NONE for another what", Edges.BUSY, "book(0, 4) = NONE", "book(0, -1) = NONE", "book(0, MIN) = NONE", "book(0, MAX) = NONE",
            "book(MAX, MIN) = NONE");
    }

    private static void fullBook() {
        Edges.edge(16, "THE BOOK (150 lines): the 150th stands", r -> {
            r.all(TEN_BLOT);
            r.all("hours(15)", "look(6) = 150", "book(149, 0) = 14", "book(149, 1) = 1", "book(149, 2) = 9", "book(149, 3) = 0", "book(150, 0) = NONE",
                "book(0, 0) = 0");
        });
        Edges.edge(16, "THE BOOK: no more then; what is done goes on", r -> {
            r.all(TEN_BLOT);
            r.all("hours(16)", "look(6) = 150", "book(149, 0) = 14", "book(150, 0) = NONE", "who(0, 3) = 16", "who(9, 3) = 16", "look(5) = 16");
        });
        Edges.edge(16, "THE BOOK: full amid an hour", "one()", "tell(0, 'lifts 0;blots 1000;')", "set(0, 0, 99)", "hours(60)", "hours(39)", "act(3, 0, 0)",
            "hours(50)", "look(6) = 149",
            "tell(0, 'lifts 0;blots 0;writes 99;')", "hours(1) = 20", "look(6) = 150", "book(149, 1) = 0", "book(149, 3) = 20", "book(150, 1) = NONE",
            "look(4) = 1", "who(0, 4) = 1");
        Edges.edge(16, "THE BOOK: full, a QUILL that lifts is not in it", r -> {
            r.all(TEN_BLOT);
            r.all("hours(15)", "tell(0, 'lifts 1000;')", "hours(1)", "look(3) = 10", "look(6) = 150", "book(149, 1) = 1");
        });
    }
}
