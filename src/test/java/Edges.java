import java.util.ArrayList;
import java.util.Arrays;
import java.util.List;
import java.util.Set;
import java.util.TreeSet;
import java.util.function.Consumer;

/** What the edge tests share: each is one sentence of the document, held up to runs of calls on new objects. */
final class Edges {
    static final String[] BUSY = {"busy()"};
    static final String[] CALM = {"calm()"};
    static final String[] EMPTY = {};
    static final Set<Integer> PROMISES = new TreeSet<>();
    static int held = 0;
    static int broken = 0;

    private Edges() { }

    static String[] after(String... calls) {
        return calls;
    }

    /** The calls, in their order on one new object, answer as is due. */
    static void edge(int promise, String sentence, String... calls) {
        edge(promise, sentence, r -> r.all(calls));
    }

    static void edge(int promise, String sentence, Consumer<Run> body) {
        Run r = new Run();
        try {
            body.accept(r);
        } catch (RuntimeException e) {
            r.wrong.append("  ").append(e).append('\n');
        }
        judge(promise, sentence, r.wrong);
    }

    /** Each of the calls, on an object of its own, answers as is due and leaves all as it was. */
    static void unchanged(int promise, String sentence, String[] before, String... calls) {
        StringBuilder wrong = new StringBuilder();
        try {
            List<String> due = whole(before, null, wrong);
            for (String call : calls) {
                List<String> got = whole(before, call, wrong);
                if (!got.equals(due)) wrong.append("  ").append(call).append(" changes ").append(firstUnlike(due, got)).append('\n');
            }
        } catch (RuntimeException e) {
            wrong.append("  ").append(e).append('\n');
        }
        judge(promise, sentence, wrong);
    }

    private static void judge(int promise, String sentence, StringBuilder wrong) {
        PROMISES.add(promise);
        if (wrong.length() == 0) {
            held++;
            return;
        }
        broken++;
        System.out.print("promise " + promise + ": " + sentence + "\n" + wrong);
    }

    private static String firstUnlike(List<String> due, List<String> got) {
        for (int i = 0; i < Math.min(due.size(), got.size()); i++) if (!due.get(i).equals(got.get(i))) return due.get(i) + " to " + got.get(i);
        return "how much there is to ask";
    }

    private static List<String> whole(String[] before, String call, StringBuilder wrong) {
        Run r = new Run();
        r.all(before);
        if (call != null) r.call(call);
        wrong.append(r.wrong);
        return whole(r);
    }

    /** All that can be asked of the object: also THE TAPE, what can be undone, THE IMAGE; it is used up by that. */
    static List<String> whole(Run r) {
        List<String> all = new ArrayList<>();
        firm(r, all);
        ask(r, all, "fault(0)", "fault(1)");
        thought(r, all);
        ask(r, all, "letters(1)", "stamp(1)", "cut(59)", "sign(0)", "leg(1)", "weight(1)", "heir(1)");
        tape(r, all);
        past(r, all);
        ask(r, all, "image(false)");
        if (all.get(all.size() - 1).equals("image(false) = 1")) {
            firm(r, all);
            thought(r, all);
        }
        return all;
    }

    static void ask(Run r, List<String> all, String... calls) {
        for (String call : calls) all.add(call + " = " + r.call(call));
    }

    static void firm(Run r, List<String> all) {
        for (int i = 0; i < 13; i++) ask(r, all, "look(" + i + ")");
        int[] count = {r.call("look(0)"), r.call("look(1)"), r.call("look(2)"), r.call("look(6)")};
        String[] names = {"of", "who", "deedOf", "book"};
        int[] whats = {5, 8, 6, 4};
        for (int k = 0; k < 4; k++) {
            for (int i = 0; i < count[k]; i++) for (int what = 0; what < whats[k]; what++) ask(r, all, names[k] + "(" + i + ", " + what + ")");
        }
        if (count[0] > 0) ask(r, all, "of(0, 5)", "of(0, 6)");
    }

    static void thought(Run r, List<String> all) {
        ask(r, all, "page(20, 0)", "page(20, 1)", "stamps(0)", "stamps(1)", "dots(0)", "dots(1)", "dots(2)", "planks(60, 0)", "planks(60, 1)",
            "read(0)", "read(1)", "read(102)", "line(0)", "line(1)", "line(2)", "lift(9, 0)", "lift(9, 1)", "seal(100, 0)", "seal(7, -1)", "goes(9, 0)");
    }

    static void tape(Run r, List<String> all) {
        int has = r.call("feed(0, 0, 0, 0, 0)");
        int n = has >= 20 ? has - 20 : 400;
        while (n > 0 && r.call("end(" + n + ")") == 0) n--;
        all.add("bytes of THE TAPE: " + n);
        ask(r, all, "text(0)", "fault(0)", "fault(1)", "look(8)", "who(0, 5)");
    }

    static void past(Run r, List<String> all) {
        for (int i = 0; i < 7; i++) {
            ask(r, all, "undo()");
            if (all.get(all.size() - 1).equals("undo() = 0")) return;
            ask(r, all, "look(5)", "look(6)", "look(7)", "of(0, 1)", "of(0, 2)", "who(0, 1)", "who(0, 2)", "deedOf(0, 1)");
        }
    }

    /** The numbers from 0 on below n, each put into the text for #. */
    static String[] each(int n, String text) {
        String[] calls = new String[n];
        Arrays.setAll(calls, i -> text.replace("#", "" + i));
        return calls;
    }
}
