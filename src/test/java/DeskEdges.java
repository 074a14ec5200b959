/** The edges of Terms 1, "By hand" of Terms 3, and of the promises that tell and ask what is on the desk. */
final class DeskEdges {
    private static final int[] ENDS = {Integer.MIN_VALUE, Integer.MAX_VALUE};

    private DeskEdges() { }

    static void all() {
        emptyDesk();
        state();
        quills();
        clerks();
        deeds();
        set();
        take();
        dropAndGo();
        dipAndCut();
        askQuill();
        askClerk();
        askDeed();
        look();
    }

    private static void emptyDesk() {
        Edges.edge(1, "An empty desk: nothing is there to be counted", Edges.each(13, "look(#) = 0"));
        Edges.edge(1, "An empty desk: there is no QUILL, CLERK, DEED, line of THE BOOK",
            "of(0, 0) = -2", "who(0, 0) = -2", "deedOf(0, 0) = -2", "book(0, 0) = NONE", "done(0) = NONE");
        Edges.edge(1, "TEXTS (empty at first)", "look(8) = 0", "look(9) = 0", "look(10) = 0", "look(11) = 0", "fault(0) = 0", "fault(1) = NONE");
        Edges.edge(1, "An empty desk: THE TAPE is empty", "end(1) = false", "end(0) = true", "feed(0, 0, 0, 0, 0) = 20");
        Edges.edge(1, "An empty desk: nothing can be undone, there is no IMAGE", "undo() = false", "image(false) = false");
        Edges.edge(1, "An empty desk: nothing is told for thought", "page(20, 0) = 0", "page(20, 1) = 0", "stamps(0) = NONE", "stamps(1) = 1000",
            "dots(0) = 1", "dots(1) = 0", "dots(2) = 0", "planks(60, 0) = 0", "planks(60, 1) = NONE", "read(0) = 0", "read(1) = 0", "read(101) = 0",
            "line(0) = 0", "line(1) = 0", "line(2) = 0", "lift(3, 0) = 2", "lift(3, 1) = 1", "seal(5, 0) = NONE", "seal(5, NONE) = NONE");
        Edges.edge(1, "An empty desk: nothing is ahead of it in thought", "goes(60, 0) = 0", "goes(60, 1) = 0", "goes(60, 2) = 0", "goes(60, 3) = 0",
            "soon(1, 0) = 0", "soon(1, 1) = NONE");
        Edges.edge(1, "An empty desk, whatever another one holds", r -> {
            new Run().all("busy()");
            r.due("all of it", Edges.whole(r).equals(Edges.whole(new Run())) ? 1 : 0, 1);
        });
        Edges.edge(1, "at most 512 calls: the 512th is answered, too", "feed(0, 0, 0, 0, 0) = 20", "166 times hours(60) = 0", "300 times undo()",
            "44 times look(7) = 0", "look(5) = 9954");
        Edges.edge(1, "NONE = -1", r -> r.due("NONE", QuillDesk.NONE, -1));
    }

    private static void state() {
        Edges.edge(2, "STATE of draws (an int, 0 at first)", "state(5) = 0");
        Edges.edge(2, "STATE is told: what it was, at both ends of an int", "state(MIN) = 0", "look(7) = MIN", "state(MAX) = MIN", "look(7) = MAX",
            "state(-1) = MAX", "look(7) = -1", "state(0) = -1", "look(7) = 0");
    }

    private static void quills() {
        Edges.edge(3, "BIRD 0 .. 7: both ends are taken", "quill(0, 1) = 0", "quill(7, 1) = 1", "of(0, 0) = 0", "of(1, 0) = 7");
        Edges.unchanged(3, "BIRD 0 .. 7: NONE below and above", Edges.BUSY, "quill(-1, 1) = NONE", "quill(8, 1) = NONE", "quill(MIN, 1) = NONE",
            "quill(MAX, 1) = NONE");
        Edges.edge(3, "INK 0 .. 99: both ends are taken", "quill(1, 0) = 0", "quill(1, 99) = 1", "of(0, 1) = 0", "of(1, 1) = 99");
        Edges.unchanged(3, "INK 0 .. 99: NONE below and above", Edges.BUSY, "quill(1, -1) = NONE", "quill(1, 100) = NONE", "quill(1, MIN) = NONE",
            "quill(1, MAX) = NONE");
        Edges.edge(3, "WORN 0 at first, GONE 0 at first, nobody HOLDS it", "quill(1, 99) = 0", "of(0, 2) = 0", "of(0, 3) = 0", "of(0, 4) = NONE");
        Edges.edge(3, "QUILLS 0 .. 13 as they come: the number", r -> {
            for (int i = 0; i < 14; i++) r.due("quill " + i, r.desk.quill(7 - i / 2, 99 - i), i);
            for (int i = 0; i < 14; i++) {
                r.due("its BIRD", r.desk.of(i, 0), 7 - i / 2);
                r.due("its INK", r.desk.of(i, 1), 99 - i);
            }
            r.call("look(0) = 14");
        });
        Edges.unchanged(3, "NONE if there are fourteen", Edges.after("14 times quill(1, 1)"), "quill(1, 1) = NONE", "quill(0, 0) = NONE",
            "quill(7, 99) = NONE");
        Edges.edge(3, "the fourteenth is a QUILL like the others", "13 times quill(1, 1)", "quill(2, 3) = 13", "clerk(1)", "act(0, 0, 13) = true",
            "of(13, 4) = 0", "who(0, 1) = 13", "tell(1, 'at 0 clerk 0 take 13;') = 1");
    }

    private static void clerks() {
        Edges.edge(4, "HAND 0 .. 9: both ends are taken", "clerk(0) = 0", "clerk(9) = 1", "who(0, 0) = 0", "who(1, 0) = 9");
        Edges.unchanged(4, "HAND 0 .. 9: NONE below and above", Edges.BUSY, "clerk(-1) = NONE", "clerk(10) = NONE", "clerk(MIN) = NONE", "clerk(MAX) = NONE");
        Edges.edge(4, "HOLDS NONE, AT NONE, BLOTS 0, SIGNED 0 at first", "quill(1, 1)", "deed(1)", "clerk(3) = 0", "who(0, 1) = NONE", "who(0, 2) = NONE",
            "who(0, 3) = 0", "who(0, 4) = 0");
        Edges.edge(4, "CLERKS 0 .. 9 as they come: the number", r -> {
            for (int i = 0; i < 10; i++) r.due("clerk " + i, r.desk.clerk(9 - i), i);
            for (int i = 0; i < 10; i++) r.due("his HAND", r.desk.who(i, 0), 9 - i);
            r.call("look(1) = 10");
        });
        Edges.unchanged(4, "NONE if there are ten", Edges.after("10 times clerk(1)"), "clerk(1) = NONE", "clerk(0) = NONE", "clerk(9) = NONE");
        Edges.edge(4, "the tenth is a CLERK like the others", "9 times clerk(1)", "clerk(2) = 9", "quill(1, 5)", "deed(3)", "act(0, 9, 0) = true",
            "act(2, 9, 0) = true",
            "tell(0, 'lifts 0;blots 0;writes 9;') = 3", "hours(1) = 3", "who(9, 4) = 1", "deedOf(0, 2) = 9", "tell(1, 'at 0 clerk 9 drop;') = 1");
    }

    private static void deeds() {
        Edges.edge(5, "LENGTH 1 .. 99: both ends are taken", "deed(1) = 0", "deed(99) = 1", "deedOf(0, 0) = 1", "deedOf(1, 0) = 99");
        Edges.unchanged(5, "LENGTH 1 .. 99: NONE below and above", Edges.BUSY, "deed(0) = NONE", "deed(-1) = NONE", "deed(100) = NONE", "deed(MIN) = NONE",
            "deed(MAX) = NONE");
        Edges.edge(5, "WRITTEN 0 at first, BY NONE at first: it is not done", "clerk(1)", "deed(3) = 0", "deedOf(0, 1) = 0", "deedOf(0, 2) = NONE",
            "look(4) = 0", "deedOf(0, 4) = 1");
        Edges.edge(5, "DEEDS 0 .. 11 as they come: the number", r -> {
            for (int i = 0; i < 12; i++) r.due("deed " + i, r.desk.deed(99 - i), i);
            for (int i = 0; i < 12; i++) r.due("its LENGTH", r.desk.deedOf(i, 0), 99 - i);
            r.call("look(2) = 12");
        });
        Edges.unchanged(5, "NONE if there are twelve", Edges.after("12 times deed(5)"), "deed(5) = NONE", "deed(1) = NONE", "deed(99) = NONE");
        Edges.edge(5, "the twelfth is a DEED like the others", "11 times deed(1)", "deed(2) = 11", "quill(1, 5)", "clerk(1)", "act(0, 0, 0)",
            "act(2, 0, 11) = true",
            "tell(0, 'lifts 0;blots 0;writes 9;') = 3", "hours(1) = 2", "look(4) = 2048", "tell(1, 'at 0 clerk 0 write 11;') = 1",
            "tell(3, 'deed 11 after 10;') = 1");
    }

    private static void set() {
        Edges.edge(6, "INK 0 .. 99: both ends are set", "calm()", "set(0, 1, 0) = true", "of(1, 1) = 0", "set(0, 1, 99) = true", "of(1, 1) = 99",
            "of(0, 1) = 20", "of(1, 2) = 0");
        Edges.edge(6, "WORN 0 .. 99: both ends are set", "calm()", "set(1, 0, 99) = true", "of(0, 2) = 99", "of(1, 2) = 0", "set(1, 0, 0) = true",
            "of(0, 2) = 0", "of(0, 1) = 20");
        Edges.edge(6, "HAND 0 .. 9: both ends are set", "calm()", "set(2, 1, 0) = true", "who(1, 0) = 0", "set(2, 1, 9) = true", "who(1, 0) = 9",
            "who(0, 0) = 5");
        Edges.unchanged(6, "INK 0 .. 99: false below and above", Edges.BUSY, "set(0, 0, -1) = false", "set(0, 0, 100) = false", "set(0, 0, MIN) = false",
            "set(0, 0, MAX) = false");
        Edges.unchanged(6, "WORN 0 .. 99: false below and above", Edges.BUSY, "set(1, 0, -1) = false", "set(1, 0, 100) = false", "set(1, 0, MIN) = false",
            "set(1, 0, MAX) = false");
        Edges.unchanged(6, "HAND 0 .. 9: false below and above", Edges.BUSY, "set(2, 0, -1) = false", "set(2, 0, 10) = false", "set(2, 0, 99) = false",
            "set(2, 0, MIN) = false", "set(2, 0, MAX) = false");
        Edges.unchanged(6, "INK of QUILL who: false if there is none", Edges.BUSY, "set(0, 4, 5) = false", "set(0, -1, 5) = false", "set(0, 13, 5) = false",
            "set(0, MIN, 5) = false", "set(0, MAX, 5) = false");
        Edges.unchanged(6, "WORN of QUILL who: false if there is none", Edges.BUSY, "set(1, 4, 5) = false", "set(1, -1, 5) = false", "set(1, 13, 5) = false",
            "set(1, MIN, 5) = false", "set(1, MAX, 5) = false");
        Edges.unchanged(6, "HAND of CLERK who: false if there is none", Edges.BUSY, "set(2, 3, 5) = false", "set(2, -1, 5) = false", "set(2, 9, 5) = false",
            "set(2, MIN, 5) = false", "set(2, MAX, 5) = false");
        Edges.unchanged(6, "false for another what", Edges.BUSY, "set(-1, 0, 5) = false", "set(3, 0, 5) = false", "set(MIN, 0, 5) = false",
            "set(MAX, 0, 5) = false");
        Edges.edge(6, "of none told yet: false", "set(0, 0, 0) = false", "set(1, 0, 0) = false", "set(2, 0, 0) = false");
        Edges.edge(6, "the last QUILL and the last CLERK, and none behind them", "14 times quill(1, 1)", "10 times clerk(1)", "set(0, 13, 7) = true",
            "set(1, 13, 8) = true", "set(2, 9, 3) = true",
            "of(13, 1) = 7", "of(13, 2) = 8", "who(9, 0) = 3", "set(0, 14, 7) = false", "set(1, 14, 8) = false", "set(2, 10, 3) = false", "of(12, 1) = 1",
            "who(8, 0) = 1");
        Edges.edge(6, "a QUILL for INK and WORN, a CLERK for HAND, not the other way", "3 times quill(1, 1)", "clerk(1)", "set(0, 2, 5) = true",
            "set(1, 2, 5) = true", "set(2, 1, 5) = false", "clerk(1)", "clerk(1)", "clerk(1)",
            "set(2, 3, 5) = true", "set(0, 3, 5) = false", "set(1, 3, 5) = false");
        Edges.edge(6, "how many it was before is not asked: the same once more is true", "quill(1, 5)", "set(0, 0, 5) = true", "set(1, 0, 0) = true",
            "clerk(4)", "set(2, 0, 4) = true");
    }

    private static void take() {
        Edges.edge(7, "TAKE: a CLERK without a QUILL one that nobody HOLDS", "busy()", "act(0, 1, 2) = true", "who(1, 1) = 2", "of(2, 4) = 1");
        Edges.unchanged(7, "TAKE: false for a CLERK who has a QUILL", Edges.BUSY, "act(0, 0, 2) = false", "act(0, 0, 0) = false", "act(0, 2, 2) = false");
        Edges.unchanged(7, "TAKE: false if somebody HOLDS it (one at most)", Edges.BUSY, "act(0, 1, 0) = false", "act(0, 1, 1) = false");
        Edges.unchanged(7, "TAKE: false if it is GONE", Edges.BUSY, "act(0, 1, 3) = false");
        Edges.unchanged(7, "TAKE: false if there is no such QUILL", Edges.BUSY, "act(0, 1, 4) = false", "act(0, 1, NONE) = false", "act(0, 1, 13) = false",
            "act(0, 1, MIN) = false", "act(0, 1, MAX) = false");
        Edges.unchanged(7, "TAKE: false if there is no such CLERK", Edges.BUSY, "act(0, 3, 2) = false", "act(0, -1, 2) = false", "act(0, 9, 2) = false",
            "act(0, MIN, 2) = false", "act(0, MAX, 2) = false");
        Edges.edge(7, "TAKE: what another one dropped", "busy()", "act(1, 0, 0) = true", "act(0, 1, 0) = true", "of(0, 4) = 1", "who(0, 1) = NONE");
        Edges.unchanged(7, "false for another what", Edges.BUSY, "act(-1, 0, 0) = false", "act(5, 0, 0) = false", "act(MIN, 0, 0) = false",
            "act(MAX, 0, 0) = false");
        Edges.unchanged(7, "with nobody and nothing there: false", Edges.EMPTY, "act(0, 0, 0) = false", "act(1, 0, 0) = false", "act(2, 0, 0) = false",
            "act(2, 0, NONE) = false", "act(3, 0, 0) = false", "act(4, 0, 0) = false");
    }

    private static void dropAndGo() {
        Edges.edge(7, "DROP: v is not asked", "busy()", "act(1, 0, MIN) = true", "who(0, 1) = NONE", "of(0, 4) = NONE", "act(1, 2, MAX) = true",
            "who(2, 1) = NONE");
        Edges.unchanged(7, "DROP: false for a CLERK without a QUILL", Edges.BUSY, "act(1, 1, 0) = false", "act(1, 1, NONE) = false");
        Edges.unchanged(7, "DROP: false if there is no such CLERK", Edges.BUSY, "act(1, 3, 0) = false", "act(1, -1, 0) = false", "act(1, MIN, 0) = false",
            "act(1, MAX, 0) = false");
        Edges.edge(7, "to go to a DEED (what it comes after need not be done; with a QUILL or not)", "busy()", "deedOf(2, 4) = 0", "act(2, 0, 2) = true",
            "who(0, 2) = 2", "act(2, 1, 3) = true", "who(1, 2) = 3");
        Edges.unchanged(7, "to go: false to one that is done", Edges.BUSY, "act(2, 0, 1) = false", "act(2, 1, 1) = false");
        Edges.unchanged(7, "to go: false to the one where he is", Edges.BUSY, "act(2, 0, 0) = false", "act(2, 2, 0) = false");
        Edges.unchanged(7, "to go: false if there is no such DEED", Edges.BUSY, "act(2, 0, 4) = false", "act(2, 0, -2) = false", "act(2, 0, 11) = false",
            "act(2, 0, MIN) = false", "act(2, 0, MAX) = false");
        Edges.unchanged(7, "to go: false if there is no such CLERK", Edges.BUSY, "act(2, 3, 0) = false", "act(2, -1, 0) = false", "act(2, 3, NONE) = false",
            "act(2, MIN, 3) = false", "act(2, MAX, 3) = false");
        Edges.edge(7, "to go to none (v NONE), if he is AT one", "busy()", "act(2, 0, NONE) = true", "who(0, 2) = NONE", "who(0, 1) = 0", "deedOf(0, 5) = 4",
            "act(2, 0, NONE) = false");
        Edges.unchanged(7, "to go to none: false if he is AT none", Edges.BUSY, "act(2, 1, NONE) = false");
        Edges.edge(7, "many AT one DEED", r -> {
            r.all("10 times clerk(1)", "deed(4)");
            for (int i = 0; i < 10; i++) r.call("act(2, " + i + ", 0) = true");
            r.call("deedOf(0, 5) = 1023");
        });
    }

    private static void dipAndCut() {
        Edges.edge(7, "to DIP: INK below 99 (98 and 0), v not asked", "calm()", "set(0, 0, 98)", "act(3, 0, MIN) = true", "of(0, 1) = 99", "set(0, 0, 0)",
            "act(3, 0, MAX) = true", "of(0, 1) = 99", "of(1, 1) = 5");
        Edges.unchanged(7, "to DIP: false at 99", Edges.after("calm()", "act(3, 0, 0)", "hours(1)", "act(3, 0, 0)"), "act(3, 0, 0) = false",
            "act(3, 0, NONE) = false");
        Edges.unchanged(7, "to DIP: false without a QUILL", Edges.BUSY, "act(3, 1, 0) = false", "act(3, 1, 2) = false");
        Edges.unchanged(7, "to DIP: false if there is no such CLERK", Edges.BUSY, "act(3, 3, 0) = false", "act(3, -1, 0) = false", "act(3, MIN, 0) = false",
            "act(3, MAX, 0) = false");
        Edges.edge(7, "to CUT: WORN above 0 (1 and 99), v not asked", "calm()", "set(1, 0, 1)", "act(4, 0, MIN) = true", "of(0, 2) = 0", "set(1, 0, 99)",
            "act(4, 0, MAX) = true", "of(0, 2) = 0", "of(0, 1) = 20");
        Edges.unchanged(7, "to CUT: false at 0", Edges.after("calm()", "hours(1)", "act(4, 0, 0)", "act(4, 1, 0)"), "act(4, 0, 0) = false",
            "act(4, 1, NONE) = false");
        Edges.unchanged(7, "to CUT: false without a QUILL", Edges.BUSY, "act(4, 1, 0) = false", "act(4, 1, 2) = false");
        Edges.unchanged(7, "to CUT: false if there is no such CLERK", Edges.BUSY, "act(4, 3, 0) = false", "act(4, -1, 0) = false", "act(4, MIN, 0) = false",
            "act(4, MAX, 0) = false");
    }

    private static void askQuill() {
        Edges.edge(13, "Of a QUILL what 0 .. 6", "busy()", "of(0, 0) = 3", "of(0, 1) = 24", "of(0, 2) = 3", "of(0, 3) = 0", "of(0, 4) = 0", "of(0, 5) = 2",
            "of(0, 6) = 6");
        Edges.edge(13, "who HOLDS it (NONE)", "busy()", "of(1, 4) = 2", "of(2, 4) = NONE", "of(3, 4) = NONE");
        Edges.edge(13, "GONE 0, 1", "busy()", "of(2, 3) = 0", "of(3, 3) = 1");
        Edges.edge(13, "wild, fine by BIRDS, else wild 0, fine 5", "busy()", "of(1, 5) = 0", "of(1, 6) = 5", "of(3, 5) = 0", "of(3, 6) = 5");
        Edges.unchanged(13, "NONE - 1 if there is none such", Edges.BUSY, "of(4, 0) = -2", "of(-1, 0) = -2", "of(13, 3) = -2", "of(14, 0) = -2",
            "of(MIN, 0) = -2", "of(MAX, 0) = -2");
        Edges.unchanged(13, "NONE - 1 for another what", Edges.BUSY, "of(0, 7) = -2", "of(0, -1) = -2", "of(0, MIN) = -2", "of(0, MAX) = -2",
            "of(MAX, MIN) = -2");
        Edges.edge(13, "with none told yet: NONE - 1", Edges.each(7, "of(0, #) = -2"));
        Edges.edge(13, "the fourteenth, and none behind it", "13 times quill(1, 1)", "of(13, 0) = -2", "quill(6, 2)", "of(13, 0) = 6", "of(14, 0) = -2");
    }

    private static void askClerk() {
        Edges.edge(14, "Of a CLERK what 0 .. 7", "busy()", "who(0, 0) = 5", "who(0, 1) = 0", "who(0, 2) = 0", "who(0, 3) = 0", "who(0, 4) = 1", "who(0, 5) = 7",
            "who(2, 6) = 500", "who(0, 7) = 0");
        Edges.edge(14, "HOLDS, AT: NONE", "busy()", "who(1, 1) = NONE", "who(1, 2) = NONE");
        Edges.unchanged(14, "NONE - 1 if there is none such", Edges.BUSY, "who(3, 0) = -2", "who(-1, 0) = -2", "who(9, 5) = -2", "who(10, 0) = -2",
            "who(MIN, 0) = -2", "who(MAX, 7) = -2");
        Edges.unchanged(14, "NONE - 1 for another what", Edges.BUSY, "who(0, 8) = -2", "who(0, -1) = -2", "who(0, MIN) = -2", "who(0, MAX) = -2",
            "who(MIN, MAX) = -2");
        Edges.edge(14, "with none told yet: NONE - 1", Edges.each(8, "who(0, #) = -2"));
        Edges.edge(14, "the tenth, and none behind him", "9 times clerk(1)", "who(9, 0) = -2", "clerk(6)", "who(9, 0) = 6", "who(10, 0) = -2");
        Edges.unchanged(14, "what is asked of THE LAW draws nothing", Edges.BUSY, "who(2, 5) = 6", "who(2, 6) = 500", "who(2, 7) = 0");
    }

    private static void askDeed() {
        Edges.edge(15, "Of a DEED what 0 .. 5", "busy()", "deedOf(0, 0) = 20", "deedOf(0, 1) = 13", "deedOf(1, 2) = 0", "deedOf(2, 3) = 1", "deedOf(0, 4) = 1",
            "deedOf(0, 5) = 5");
        Edges.edge(15, "all it comes after by a line (a set): none, the least, the greatest", "12 times deed(1)",
            "tell(3, 'deed 11 after 10;deed 11 after 0;deed 10 after 9;') = 3",
            "deedOf(11, 3) = 1025", "deedOf(10, 3) = 512", "deedOf(9, 3) = 0", "deedOf(0, 3) = 0");
        Edges.edge(15, "by a line: not what stands behind another one", "3 times deed(1)", "tell(3, 'deed 2 after 1;deed 1 after 0;')", "deedOf(2, 3) = 2");
        Edges.edge(15, "it can be written: not done, and all those are", "busy()", "deedOf(1, 4) = 0", "deedOf(2, 4) = 0", "deedOf(3, 4) = 1", "act(2, 0, 2)",
            "deedOf(2, 4) = 0");
        Edges.edge(15, "it can be written: all of several, not one alone", "calm()", "deed(1)", "tell(3, 'deed 2 after 0;deed 2 after 1;')", "hours(2)",
            "look(4) = 1", "deedOf(2, 4) = 0",
            "set(0, 1, 99)", "hours(2)", "look(4) = 3", "deedOf(2, 4) = 1");
        Edges.edge(15, "who are AT it (a set): none, the first, the tenth", "10 times clerk(1)", "deed(1)", "deedOf(0, 5) = 0", "act(2, 9, 0)",
            "deedOf(0, 5) = 512", "act(2, 0, 0)", "deedOf(0, 5) = 513");
        Edges.unchanged(15, "NONE - 1 if there is none such", Edges.BUSY, "deedOf(4, 0) = -2", "deedOf(-1, 0) = -2", "deedOf(11, 5) = -2", "deedOf(12, 0) = -2",
            "deedOf(MIN, 3) = -2", "deedOf(MAX, 4) = -2");
        Edges.unchanged(15, "NONE - 1 for another what", Edges.BUSY, "deedOf(0, 6) = -2", "deedOf(0, -1) = -2", "deedOf(0, MIN) = -2", "deedOf(0, MAX) = -2",
            "deedOf(MAX, MIN) = -2");
        Edges.edge(15, "with none told yet: NONE - 1", Edges.each(6, "deedOf(0, #) = -2"));
        Edges.edge(15, "the twelfth, and none behind it", "11 times deed(1)", "deedOf(11, 0) = -2", "deed(6)", "deedOf(11, 0) = 6", "deedOf(12, 0) = -2");
    }

    private static void look() {
        Edges.edge(45, "What 0 .. 12", "busy()", "look(0) = 4", "look(1) = 3", "look(2) = 4", "look(3) = 1", "look(4) = 2", "look(5) = 4", "look(6) = 6",
            "look(7) = 1196435762",
            "look(8) = 4", "look(9) = 1", "look(10) = 1", "look(11) = 1", "look(12) = 6");
        Edges.unchanged(45, "NONE - 99999 for another what", Edges.BUSY, "look(13) = -100000", "look(-1) = -100000", "look(MIN) = -100000",
            "look(MAX) = -100000");
        Edges.edge(45, "DEEDS done (a set): none, the least, all twelve", r -> {
            r.all("12 times deed(1)", "quill(0, 99)", "clerk(0)", "act(0, 0, 0)", "tell(0, 'lifts 0;blots 0;writes 1;')", "look(4) = 0");
            for (int d = 0; d < 12; d++) {
                r.all("act(2, 0, " + d + ") = true", "hours(1) = 1");
                r.due("look(4)", r.desk.look(4), (2 << d) - 1);
            }
        });
        Edges.edge(45, "LIFTED: none, all fourteen", r -> {
            r.all("14 times quill(0, 0)", "clerk(0)", "deed(1)", "act(2, 0, 0)", "tell(0, 'lifts 1000;')");
            for (int q = 0; q < 14; q++) {
                r.due("look(3)", r.desk.look(3), q);
                r.all("act(0, 0, " + q + ") = true", "hours(1) = 0", "of(" + q + ", 3) = 1");
            }
            r.call("look(3) = 14");
        });
        Edges.edge(45, "STATE as it is: no draw is put into it", "state(MIN)", "look(7) = MIN", "look(7) = MIN");
        for (int v : ENDS) Edges.edge(45, "STATE as it is at the end of an int", r -> {
            r.desk.state(v);
            r.due("look(7)", r.desk.look(7), v);
        });
    }
}
