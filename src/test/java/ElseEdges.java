import java.util.ArrayList;
import java.util.Arrays;
import java.util.List;
import java.util.Map;
import java.util.Set;
import java.util.TreeMap;
import java.util.TreeSet;

/**
 * "Nothing is promised beyond the answers and state changes described above": what each call changes on a desk
 * where all has begun, and that all else is as it was; what is only asked changes nothing at all.
 */
final class ElseEdges {
    private ElseEdges() { }

    static void all() {
        told();
        done();
        tapeAndTexts();
        forThought();
        goneBack();
        asked();
        goesOn();
    }

    private static void told() {
        changes(2, "STATE is told, and nothing else", Edges.BUSY, "state(5)", "look(7)", "look(12)", "past");
        changes(3, "a QUILL more, and nothing else", Edges.BUSY, "quill(1, 1)", of("of(4, #)", 5, "look(0)", "look(12)", "past"));
        changes(4, "a CLERK more, and nothing else", Edges.BUSY, "clerk(1)", of("who(3, #)", 8, "look(1)", "look(12)", "past"));
        changes(5, "a DEED more, and nothing else", Edges.BUSY, "deed(5)", of("deedOf(4, #)", 6, "look(2)", "look(12)", "past"));
        // Less ink is fewer lines in thought, too.
        changes(6, "INK of that QUILL, and nothing else", Edges.BUSY, "set(0, 0, 5)", "of(0, 1)", "goes(9, 0)", "look(12)", "past");
        changes(6, "WORN of that QUILL, and nothing else", Edges.BUSY, "set(1, 0, 5)", "of(0, 2)", "look(12)", "past");
        changes(6, "HAND of that CLERK, and nothing else", Edges.BUSY, "set(2, 0, 8)", "who(0, 0)", "look(12)", "past");
    }

    private static void done() {
        // With a QUILL he would write 6 lines, without one 1.
        changes(7, "TAKE: he HOLDS it, and nothing else", Edges.BUSY, "act(0, 1, 2)", "who(1, 1)", "who(1, 5)", "of(2, 4)", "past");
        changes(7, "DROP: he HOLDS none, and nothing else", Edges.BUSY, "act(1, 0, 0)", "who(0, 1)", "who(0, 5)", "of(0, 4)", "goes(9, 0)", "past");
        changes(7, "GO: he is AT that DEED, and nothing else", Edges.BUSY, "act(2, 0, 3)", "who(0, 2)", "deedOf(0, 5)", "deedOf(3, 5)", "goes(9, 0)", "past");
        changes(7, "GO to none: he is AT none, and nothing else", Edges.BUSY, "act(2, 0, NONE)", "who(0, 2)", "deedOf(0, 5)", "goes(9, 0)", "past");
        changes(7, "DIP: INK, and nothing else", Edges.BUSY, "act(3, 0, 0)", "of(0, 1)", "goes(9, 0)", "past");
        changes(7, "CUT: WORN, and nothing else", Edges.BUSY, "act(4, 0, 0)", "of(0, 2)", "past");
        // Clerk 0 writes the last 7 lines of deed 0 and signs it: clerk 2, who is AT it too, has no turn any more.
        changes(8, "an HOUR: its lines, its signing, THE BOOK, HOUR, and nothing else", Edges.BUSY, "hours(1)",
            of("book(7, #)", 4, of("book(6, #)", 4, "deedOf(0, 1)", "deedOf(0, 2)", "deedOf(0, 4)", "deedOf(0, 5)", "deedOf(2, 4)", "look(4)", "look(5)",
                "look(6)", "of(0, 1)", "of(0, 2)", "who(0, 2)", "who(0, 4)", "who(2, 2)", "past")));
        changes(8, "an HOUR in which nobody has a turn: HOUR, and nothing else", Edges.after("calm()", "act(1, 0, 0)", "act(1, 1, 0)"), "hours(1)", "look(5)",
            "past");
    }

    private static void tapeAndTexts() {
        changes(9, "THE TAPE has twenty more, and nothing else is changed", Edges.BUSY, "feed(1, 2, 3, 4, 5)", "TAPE");
        changes(10, "THE TAPE has its first n bytes, and nothing else is changed", Edges.BUSY, "end(3)", "TAPE");
        changes(11, "it is THE LAW, and nothing else is changed", Edges.BUSY, "text(0)", "TAPE", "fault(0)", "fault(1)", "look(8)", "who(0, 6)", "who(0, 7)",
            "who(1, 5)", "who(1, 6)", "who(2, 5)", "who(2, 6)");
        changes(11, "it is ORDERS, and nothing else is changed", fed("at 4 clerk 0 dip;at 4 clerk 0 rest;"), "text(1)", "TAPE", "fault(0)", "fault(1)",
            "look(9)", "look(12)", "past", "goes(9, 0)");
        changes(11, "it is BIRDS, and nothing else is changed", fed("bird 0 wild 1 fine 1;bird 7 wild 0 fine 8;"), "text(2)", "TAPE", "fault(0)", "fault(1)",
            "look(10)", "of(0, 5)", "of(0, 6)", "who(0, 5)", "who(2, 5)");
        changes(11, "it is AFTER, and nothing else is changed", fed("deed 3 after 2;deed 3 after 0;"), "text(3)", "TAPE", "fault(0)", "fault(1)", "look(11)",
            "deedOf(2, 3)", "deedOf(2, 4)", "deedOf(3, 3)", "deedOf(3, 4)");
        for (int k = 0; k < 4; k++) changes(11, "a FAULT in TEXT " + k + ": THE TAPE is empty, and nothing else is changed but fault()", fed("x"),
            "text(" + k + ")", "TAPE", "fault(0)", "fault(1)");
        changes(11, "no such TEXT: THE TAPE is empty, and nothing else is changed but fault()", Edges.BUSY, "text(4)", "TAPE", "fault(0)", "fault(1)");
    }

    private static void forThought() {
        changes(21, "a word for PAGE, and for nothing else", Edges.BUSY, "letters(3)", "one more: letters(1)", "page(20, 0)", "page(20, 1)");
        changes(21, "no word for PAGE, and all else as it was", Edges.BUSY, "letters(NONE)", "one more: letters(1)", "page(20, 0)", "page(20, 1)");
        changes(23, "a stamp for STAMPS, and for nothing else", Edges.BUSY, "stamp(3)", "one more: stamp(1)", "stamps(0)", "stamps(1)");
        changes(23, "no stamp for STAMPS, and all else as it was", Edges.BUSY, "stamp(NONE)", "one more: stamp(1)", "stamps(0)", "stamps(1)");
        changes(29, "a point for DOTS, and for nothing else", Edges.BUSY, "dot(0, 50, 50)", "dots(0)", "dots(1)", "dots(2)");
        changes(31, "a place for PLANKS, and for nothing else", Edges.BUSY, "cut(3)", "one more: cut(59)", "planks(60, 0)");
        changes(31, "no place for PLANKS, and all else as it was", Edges.BUSY, "cut(NONE)", "one more: cut(59)", "planks(60, 0)", "planks(60, 1)");
        changes(33, "one of READ, and of nothing else", Edges.BUSY, "sign(0)", "one more: sign(0)", "read(0)", "read(1)", "read(102)");
        changes(33, "READ is empty, and all else as it was", Edges.BUSY, "sign(NONE)", "one more: sign(0)", "read(0)", "read(1)", "read(102)");
        changes(35, "a leg for LINE, and for nothing else", Edges.BUSY, "leg(-5)", "one more: leg(1)", "line(0)");
        changes(35, "no leg for LINE, and all else as it was", Edges.BUSY, "leg(0)", "one more: leg(1)", "line(0)", "line(1)");
        changes(38, "a weight for LIFT, and for nothing else", Edges.BUSY, "weight(9)", "one more: weight(1)", "lift(9, 0)");
        changes(38, "no weight for LIFT, and all else as it was", Edges.BUSY, "weight(NONE)", "one more: weight(1)", "lift(9, 0)", "lift(9, 1)");
        changes(40, "an heir for SEAL, and for nothing else", Edges.BUSY, "heir(50)", "one more: heir(1)", "seal(100, 0)");
        changes(40, "no heir for SEAL, and all else as it was", Edges.BUSY, "heir(NONE)", "one more: heir(1)", "seal(100, 0)");
    }

    private static void goneBack() {
        // The latest HOUR: clerk 0 wrote 7 lines, clerk 2, whose DRAW was no blot, 6.
        changes(43, "the latest HOUR goes back, and nothing else: what was told since it or for thought, THE TAPE, fault(), THE IMAGE stay", Edges.BUSY,
            "undo()", of("book(5, #)", 4, of("book(4, #)", 4, "deedOf(0, 1)", "of(0, 1)", "of(0, 2)", "of(1, 1)", "of(1, 2)", "look(5)", "look(6)", "look(7)",
                "look(12)", "goes(9, 0)", "past")));
        changes(43, "a TAKING goes back, and nothing else, though much was told since", Edges.after("calm()", "act(1, 0, 0)", "act(0, 0, 0)", "letters(9)",
            "stamp(2)", "dot(0, 3, 3)", "cut(9)", "sign(9)", "leg(9)", "weight(9)", "heir(9)", "tell(2, 'bird 3 wild 9 fine 5;')", "tell(3, 'deed 1 after 0;')",
            "tell(0, 'lifts 499;blots 0;')", "image(true)", "tell(0, 'writes;')", "fed('writes 3;')"), "undo()", "who(0, 1)", "who(0, 5)", "of(0, 4)",
            "look(12)", "goes(9, 0)", "past");
        changes(44, "THE IMAGE is taken, and nothing else is changed", Edges.after("busy()", "image(true)", "act(4, 0, 0)"), "image(true)", "IMAGE: of(0, 2)");
        changes(44, "THE IMAGE is taken of a desk as it was: nothing is changed", Edges.after("busy()", "image(true)"), "image(true)");
        // Since it was taken: clerk 0 went to deed 0, then came the HOUR above.
        changes(44, "gone back to THE IMAGE: what is and was told, but not THE TAPE, fault(), nor THE IMAGE", Edges.BUSY, "image(false)",
            of("book(5, #)", 4, of("book(4, #)", 4, "deedOf(0, 1)", "deedOf(0, 5)", "who(0, 2)", "of(0, 1)", "of(0, 2)", "of(1, 1)", "of(1, 2)", "look(5)",
                "look(6)", "look(7)", "look(12)", "goes(9, 0)", "past")));
        changes(44, "gone back to a desk as it is: what can be undone, and nothing else", Edges.after("busy()", "image(true)"), "image(false)", "look(12)",
            "past");
    }

    private static void asked() {
        String[] asks = {"12 fault(0) = 2", "12 fault(1) = 9", "13 of(0, 0) = 3", "13 of(3, 3) = 1", "13 of(1, 4) = 2", "13 of(0, 6) = 6", "14 who(0, 0) = 5",
            "14 who(2, 5) = 6", "14 who(2, 6) = 500", "14 who(2, 7) = 0", "15 deedOf(2, 3) = 1", "15 deedOf(2, 4) = 0", "15 deedOf(0, 5) = 5",
            "16 book(0, 0) = 0", "16 book(5, 3) = 6", "17 goes(60, 0) = 46", "17 goes(1, 2) = 1", "18 done(0) = 1", "18 done(2) = NONE", "19 soon(7, 0) = 16",
            "19 soon(7, 1) = 2", "20 flock(12, NONE) = 2702765", "20 flock(9, 4) = 1024", "22 page(20, 0) = 4", "22 page(60, 1) = 1", "24 stamps(0) = 23",
            "24 stamps(1) = 12", "25 scratch(27, 0) = 111", "25 scratch(27, 1) = 9232", "26 threes(5, 0) = 3", "26 threes(5, 12) = 1",
            "27 curve(12, 4096, 0) = -64", "27 curve(3, 1, 2) = 1", "28 quire(12, 48, 0) = 1", "28 quire(12, 48, 2) = 0", "30 dots(0) = 4", "30 dots(1) = 22",
            "32 planks(60, 0) = 90", "32 planks(60, 1) = 30", "34 read(0) = 1", "34 read(112) = 3", "36 line(0) = -170", "36 line(2) = 0",
            "37 water(13, 4, 0) = 11", "37 water(65535, 16, 1) = 256", "39 lift(9, 0) = 0", "39 lift(40, 1) = 3", "41 seal(10, 2) = 2", "41 seal(10, NONE) = 2",
            "42 game(0, 0) = 2", "42 game(0, 1) = 0", "45 look(0) = 4", "45 look(7) = 1196435762", "45 look(12) = 6"};
        for (String s : asks) {
            String call = s.substring(3);
            Edges.unchanged(Integer.parseInt(s.substring(0, 2)), "what is asked changes nothing: " + call, Edges.BUSY, call);
        }
    }

    /** Behind THE IMAGE and behind UNDO the same HOURS come as they came, by the same DRAWS. */
    private static void goesOn() {
        String[] flies = {"calm()", "quill(2, 60)", "clerk(2)", "deed(70)", "act(0, 2, 2)", "act(2, 2, 2)", "tell(2, 'bird 2 wild 9 fine 3;')",
            "tell(1, 'at 3 clerk 1 dip;at 4 clerk 0 write 2;at 6 clerk 1 write 2;')", "tell(0, 'lifts 5*wild;blots 400;')", "hours(2)"};
        Edges.edge(44, "an image from which all goes on: STATE, ORDERS, THE LAW, THE BOOK as they would have", r -> {
            r.all(flies);
            r.all("image(true)", "hours(6)");
            List<String> first = now(r);
            r.all("hours(9)", "state(1)", "tell(1, 'at 2 clerk 0 drop;')", "text(0)", "text(2)", "quill(5, 5)", "image(false)", "hours(6)", "look(12) = 6");
            r.due("as it came", now(r).equals(first) ? 1 : 0, 1);
        });
        Edges.edge(43, "an HOUR goes back (STATE, THE BOOK, too): all goes on as it would have", r -> {
            r.all(flies);
            r.all("hours(6)");
            List<String> first = now(r);
            r.all("6 times undo() = true", "look(5) = 2", "hours(6)");
            r.due("as it came", now(r).equals(first) ? 1 : 0, 1);
        });
        Edges.edge(17, "GOES where nothing is left to DRAWS: as HOURS would go", r -> {
            r.all(flies);
            r.all("tell(0, 'lifts 1000 when hand=2 and hour=5;lifts 0;blots 1000 when hand=9 and hour=4;blots 0;writes hour;')");
            int[] thought = new int[4];
            for (int k = 0; k < 4; k++) thought[k] = r.desk.goes(7, k);
            int[] doneAt = {r.desk.done(0), r.desk.done(1), r.desk.done(2)};
            r.all("hours(7)");
            int[] sum = {0, 0, r.call("look(3)"), Integer.bitCount(r.call("look(4)"))};
            for (int i = 0; i < 3; i++) {
                sum[0] += r.desk.deedOf(i, 1);
                sum[1] += r.desk.who(i, 3);
            }
            r.due("WRITTEN, BLOTS, LIFTED, done: " + Arrays.toString(sum), Arrays.equals(thought, sum) ? 1 : 0, 1);
            r.due("LIFTED, BLOTS", sum[2] * 10 + Math.min(sum[1], 9), 11);
            for (int i = 0; i < 3; i++) r.due("done(" + i + ")", doneAt[i] >= 0 && doneAt[i] <= 7 ? 1 : 0, r.desk.deedOf(i, 2) == -1 ? 0 : 1);
        });
    }

    private static List<String> now(Run r) {
        List<String> now = new ArrayList<>();
        Edges.firm(r, now);
        return now;
    }

    /** The busy desk with this text alone on THE TAPE. */
    private static String[] fed(String text) {
        return Edges.after("busy()", "end(0)", "fed('" + text + "')");
    }

    /** The texts, and before them the numbers from 0 on below n, each put into the first one for #. */
    private static String[] of(String each, int n, String... more) {
        List<String> all = new ArrayList<>(List.of(Edges.each(n, each)));
        all.addAll(List.of(more));
        return all.toArray(new String[0]);
    }

    /** Just these asks are answered otherwise behind the call. */
    private static void changes(int promise, String sentence, String[] before, String call, String... asks) {
        Edges.edge(promise, sentence, r -> {
            Run other = new Run();
            r.all(before);
            other.all(before);
            r.call(call);
            Map<String, String> has = all(r);
            Map<String, String> had = all(other);
            Set<String> unlike = new TreeSet<>(had.keySet());
            unlike.addAll(has.keySet());
            unlike.removeIf(ask -> has.get(ask) != null && has.get(ask).equals(had.get(ask)));
            Set<String> due = new TreeSet<>(List.of(asks));
            if (!unlike.equals(due)) r.wrong.append("  ").append(call).append(" changes ").append(unlike).append("\n    due is ").append(due).append('\n');
        });
    }

    /** All that can be asked of the object, each ask with its answer: now, of THE TAPE, of what can be undone, of THE IMAGE; it is used up by that. */
    private static Map<String, String> all(Run r) {
        Map<String, String> all = new TreeMap<>();
        List<String> now = now(r);
        Edges.ask(r, now, "fault(0)", "fault(1)");
        Edges.thought(r, now);
        put(all, "", now);
        List<String> rows = new ArrayList<>();
        Edges.ask(r, rows, "letters(1)", "stamp(1)", "cut(59)", "sign(0)", "leg(1)", "weight(1)", "heir(1)");
        put(all, "one more: ", rows);
        List<String> tape = new ArrayList<>();
        Edges.tape(r, tape);
        all.put("TAPE", tape.toString());
        List<String> past = new ArrayList<>();
        Edges.past(r, past);
        all.put("past", past.toString());
        if (r.call("image(false)") == 0) return all;
        List<String> image = now(r);
        Edges.thought(r, image);
        put(all, "IMAGE: ", image);
        return all;
    }

    private static void put(Map<String, String> all, String where, List<String> asked) {
        for (String s : asked) all.put(where + s.substring(0, s.indexOf(" = ")), s.substring(s.indexOf(" = ") + 3));
    }
}
