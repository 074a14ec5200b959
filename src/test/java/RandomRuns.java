import java.lang.reflect.Method;
import java.nio.charset.StandardCharsets;
import java.util.ArrayList;
import java.util.HashMap;
import java.util.List;
import java.util.Map;

/** Long runs of calls, always the same ones, on a QuillDesk and on the Model: both must answer alike. */
public final class RandomRuns {
    private static final int CALLS = 512;
    private static final Map<String, Method> REAL = new HashMap<>();
    private static final Map<String, Method> MODEL = new HashMap<>();
    private static final String[] THOUGHT = {"goes", "done", "soon", "flock", "letters", "page", "stamp", "stamps", "scratch", "threes",
        "curve", "quire", "dot", "dots", "cut", "planks", "sign", "read", "leg", "line", "water", "weight", "lift", "heir", "seal", "game"};
    private static final String[] FACTS = {"hand", "ink", "worn", "wild", "fine", "left", "signed", "lifted", "bird", "deed", "hour"};
    private static final String[] STRAY = {";", "when", "and", "or", "not", "(", ")", "+", "*", "/", "<", "=", ">", ".", "after", "at", "clerk",
        "take", "12345", "0", "7", "10", "1000", "x", "Hand", "\t", "\u00e9", "hand", "writes", "bird", "deed", "wild", "-", "rest", ""};

    private long seed;
    private int calls;
    private QuillDesk real;
    private Model model;
    private final StringBuilder told = new StringBuilder();
    private boolean wrong;

    public static void main(String[] args) throws Exception {
        for (Method m : QuillDesk.class.getDeclaredMethods()) REAL.put(m.getName(), m);
        for (Method m : Model.class.getDeclaredMethods()) if (REAL.containsKey(m.getName())) MODEL.put(m.getName(), m);
        int runs = args.length > 0 ? Integer.parseInt(args[0]) : 400;
        int from = args.length > 1 ? Integer.parseInt(args[1]) : 0;
        int bad = 0;
        for (int run = from; run < from + runs && bad < 5; run++) {
            RandomRuns r = new RandomRuns();
            if (!r.run(run)) {
                bad++;
                System.out.println("run " + run + ":\n" + r.told);
            }
        }
        System.out.println(bad == 0 ? runs + " runs as the model" : bad + " runs unlike the model");
        if (bad != 0) System.exit(1);
    }

    private int any(int n) {
        seed = seed * 6364136223846793005L + 1442695040888963407L;
        return (int) ((seed >>> 33) % n);
    }

    private int pick(int... of) {
        return of[any(of.length)];
    }

    private int odd() {
        return pick(Integer.MIN_VALUE, Integer.MAX_VALUE, -2, -1, 0, 1, 2, 100, -100, 10000, 1 << 20);
    }

    /** Most often within the bounds, now and then at them, seldom far off. */
    private int number(int least, int most) {
        int kind = any(48);
        if (kind == 0) return odd();
        if (kind == 1) return least - 1;
        if (kind == 2) return most + 1;
        if (kind == 3) return least;
        if (kind == 4) return most;
        return least + any(most - least + 1);
    }

    private int call(String name, Object... args) {
        if (calls >= CALLS || wrong) return 0;
        calls++;
        try {
            int got = number(REAL.get(name).invoke(real, args));
            Object[] same = name.equals("feed") ? new Object[] {unpack(args)} : args;
            int due = number(MODEL.get(name).invoke(model, same));
            told.append(name).append(java.util.Arrays.toString(args)).append(" = ").append(got).append('\n');
            if (got != due) {
                wrong = true;
                told.append("  due is ").append(due).append('\n');
            }
            return got;
        } catch (ReflectiveOperationException e) {
            wrong = true;
            told.append(name).append(java.util.Arrays.toString(args)).append(" threw ").append(e.getCause()).append('\n');
            return 0;
        }
    }

    private static int[] unpack(Object[] args) {
        int[] five = new int[args.length];
        for (int i = 0; i < five.length; i++) five[i] = (Integer) args[i];
        return five;
    }

    private static int number(Object o) {
        return o instanceof Boolean ? (Boolean) o ? 1 : 0 : (Integer) o;
    }

    private boolean run(int number) {
        seed = number * 7919L + 17;
        any(2);
        real = new QuillDesk();
        model = new Model();
        int style = any(4);
        if (style != 3) {
            for (int n = any(15); n > 0; n--) call("quill", any(8), 40 + any(60));
            for (int n = any(11); n > 0; n--) call("clerk", any(10));
            for (int n = any(13); n > 0; n--) call("deed", 1 + any(style == 0 ? 99 : 30));
            for (int k = 0; k < 4; k++) if (any(2) == 0) tell(k, false);
            for (int i = 0; i < 10; i++) {
                if (any(2) == 0) call("act", 0, i, i);
                if (any(2) == 0) call("act", 2, i, any(12));
            }
        }
        while (calls < CALLS && !wrong) step(style);
        return !wrong;
    }

    /** Whoever stands idle is put to work, so that the hours have something to tell. */
    private void work() {
        for (Model.Hand h : model.w.hands) {
            if (h.quill == null) {
                for (Model.Bird b : model.w.birds) if (any(3) == 0 && model.free(b)) { call("act", 0, h.no, model.w.birds.indexOf(b)); break; }
            } else if (h.quill.ink < 3) call("act", 3, h.no, 0);
            if (h.deed == null) for (Model.Sheet d : model.w.sheets) if (any(3) == 0 && model.ready(d)) { call("act", 2, h.no, d.no); break; }
        }
        call("hours", 1 + any(3));
        for (int i = Math.max(0, model.w.book.size() - 3); i < model.w.book.size(); i++) for (int k = 0; k < 4; k++) if (any(2) == 0) call("book", i, k);
        call("look", 7);
    }

    private void step(int style) {
        if (style != 2 && any(8) == 0) { work(); return; }
        int kind = any(style == 3 ? 60 : 40);
        if (kind < 6) call("act", number(0, 4), number(0, 9), any(3) == 0 ? number(-1, 11) : number(0, 13));
        else if (kind < 8) call("hours", any(8) == 0 ? number(1, 60) : 1 + any(3));
        else if (kind < 9 && any(60) == 0) tell(any(4), any(3) == 0);
        else if (kind < 10) tell(pick(0, 0, 0, 1, 1, 2, 3), any(2) == 0);
        else if (kind < 12) call("undo");
        else if (kind < 13) { if (any(3) == 0) call("image", any(3) == 0); }
        else if (kind < 14) told(any(6));
        else if (kind < 17) call("of", number(0, 13), number(0, 6));
        else if (kind < 21) call("who", number(0, 9), number(0, 7));
        else if (kind < 24) call("deedOf", number(0, 11), number(0, 5));
        else if (kind < 27) call("book", any(2) == 0 ? number(0, 149) : Math.max(0, model.w.book.size() - any(4)), number(0, 3));
        else if (kind < 31) call("look", number(0, 12));
        else if (kind < 32) call("fault", number(0, 1));
        else if (kind < 33 && any(3) == 0) call("hours", 60);
        else thought(THOUGHT[any(THOUGHT.length)]);
    }

    private void told(int kind) {
        if (kind == 0) call("state", any(2) == 0 ? any(1 << 30) * 5 : odd());
        else if (kind == 1) call("quill", number(0, 7), number(0, 99));
        else if (kind == 2) call("clerk", number(0, 9));
        else if (kind == 3) call("deed", number(1, 99));
        else if (kind == 4) call("set", number(0, 2), number(0, 13), number(0, 99));
        else call("set", 2, number(0, 9), number(0, 9));
    }

    private void thought(String name) {
        switch (name) {
            case "goes" -> call(name, number(1, 60), number(0, 3));
            case "done" -> call(name, number(0, 11));
            case "soon" -> call(name, number(1, any(2) == 0 ? 99 : 9), number(0, 1));
            case "flock" -> call(name, number(0, 12), number(-1, 11));
            case "letters" -> more(name, 1, 20);
            case "page" -> call(name, number(20, 60), number(0, 1));
            case "stamp" -> more(name, 1, 30);
            case "scratch" -> call(name, number(1, 9999), number(0, 1));
            case "threes" -> call(name, number(-9999, 9999), pick(0, 1, 10, 11, 12, 13, 14, 15, 16, 17, 18, 19, number(0, 20)));
            case "curve" -> { int k = number(0, 12); call(name, k, number(0, 1 << Math.max(0, Math.min(k, 12))), number(0, 2)); }
            case "quire" -> { int n = number(1, 12); call(name, n, number(1, 4 * Math.max(1, Math.min(n, 12))), number(0, 2)); }
            case "dot" -> { int d = pick(3, 99); call(name, number(0, 2), number(0, d), number(0, d)); }
            case "cut" -> more(name, 1, 59);
            case "planks" -> call(name, number(1, 60), number(0, 1));
            case "sign" -> more(name, 0, pick(1, 2, 9));
            case "read" -> call(name, pick(0, 1, number(100, 112)));
            case "leg" -> call(name, any(12) == 0 ? 0 : number(-179, 179));
            case "water" -> { int b = number(1, 16); call(name, any(2) == 0 ? number(0, 1 << Math.max(0, Math.min(b, 15))) : number(0, 65535), b, number(0, 1)); }
            case "weight" -> more(name, 1, 9);
            case "lift" -> call(name, number(1, 40), number(0, 1));
            case "heir" -> more(name, 1, 50);
            case "seal" -> call(name, number(0, 200), any(2) == 0 ? -1 : number(0, Math.max(0, model.t.row("heirs").size() - 1)));
            case "game" -> call(name, number(0, 4095), number(0, 1));
            default -> call(name, name.equals("line") ? number(0, 2) : name.equals("dots") ? number(0, 2) : number(0, 1));
        }
    }

    private void more(String name, int least, int most) {
        for (int n = any(3); n >= 0; n--) call(name, any(16) == 0 ? -1 : number(least, most));
    }

    private void tell(int k, boolean marred) {
        List<String> tokens = new ArrayList<>();
        int lines = any(10) == 0 ? 14 + any(4) : any(6);
        for (int i = 0; i < lines; i++) line(k, tokens);
        if (marred && !tokens.isEmpty()) {
            int i = any(tokens.size());
            if (any(3) == 0) tokens.remove(i);
            else if (any(2) == 0) tokens.set(i, STRAY[any(STRAY.length)]);
            else tokens.add(i, STRAY[any(STRAY.length)]);
        }
        StringBuilder b = new StringBuilder();
        for (String s : tokens) {
            if (b.length() > 0 && Character.isLetterOrDigit(b.charAt(b.length() - 1)) && !s.isEmpty() && Character.isLetterOrDigit(s.charAt(0))) {
                if (Character.isLetter(b.charAt(b.length() - 1)) == Character.isLetter(s.charAt(0)) || any(4) > 0) b.append(any(9) == 0 ? '\n' : ' ');
            } else if (any(8) == 0) b.append(' ');
            b.append(s);
        }
        if (any(9) == 0) b.append("  ");
        byte[] bytes = b.toString().getBytes(StandardCharsets.ISO_8859_1);
        if (bytes.length > 0 && marred && any(4) == 0) bytes[any(bytes.length)] = (byte) any(256);
        int length = Math.min(bytes.length, 400);
        for (int i = 0; i < length; i += 20) {
            int[] five = new int[5];
            for (int j = 0; j < 20; j++) five[j / 4] = five[j / 4] << 8 | (i + j < length ? bytes[i + j] & 255 : ' ');
            call("feed", five[0], five[1], five[2], five[3], five[4]);
        }
        if (any(30) == 0) call("feed", odd(), odd(), odd(), odd(), odd());
        else if (any(40) == 0) call("end", number(0, 400));
        else if (length > 0) call("end", length);
        if (any(20) == 0) call("end", number(0, 400));
        told.append("  # ").append(b).append('\n');
        call("text", any(30) == 0 ? number(0, 3) : k);
        call("fault", 0);
        call("fault", 1);
    }

    private void line(int k, List<String> l) {
        String wordy = any(10) == 0 ? "10000" : null;
        if (k == 0) {
            l.add(new String[] {"writes", "blots", "lifts"}[any(3)]);
            expression(l, any(3) == 0 ? 9 : 1000);
            if (any(3) > 0) { l.add("when"); condition(l, 0); }
        } else if (k == 1) {
            l.add("at"); l.add("" + (any(30) == 0 ? any(1100) : model.w.hour + any(12))); l.add("clerk"); l.add("" + below(model.w.hands.size()));
            String verb = new String[] {"take", "drop", "write", "rest", "dip", "cut"}[any(6)];
            l.add(verb);
            if (verb.equals("take")) l.add("" + below(model.w.birds.size()));
            if (verb.equals("write")) l.add("" + below(model.w.sheets.size()));
        } else if (k == 2) {
            l.add("bird"); l.add("" + below(8)); l.add("wild"); l.add("" + below(10)); l.add("fine"); l.add("" + below(10));
        } else {
            int d = below(model.w.sheets.size());
            l.add("deed"); l.add("" + d); l.add("after"); l.add("" + below(Math.max(1, d)));
        }
        if (wordy != null && any(20) == 0) l.add(wordy);
        l.add(";");
    }

    private int below(int n) {
        return any(60) == 0 ? n : any(Math.max(1, n));
    }

    private void expression(List<String> l, int most) {
        for (int i = 0; i == 0 || any(3) == 0; i++) {
            if (i > 0) l.add(any(2) == 0 ? "+" : "-");
            unit(l, most);
            while (any(4) == 0) {
                if (any(2) == 0) { l.add("*"); unit(l, most); }
                else { l.add("/"); l.add("" + (any(40) == 0 ? 0 : 1 + any(9))); }
            }
        }
    }

    private void unit(List<String> l, int most) {
        l.add(any(2) == 0 ? FACTS[any(FACTS.length)] : any(30) == 0 ? "9999" : "" + any(most));
    }

    private void condition(List<String> l, int depth) {
        for (int i = 0; i == 0 || any(4) == 0; i++) {
            if (i > 0) l.add(any(2) == 0 ? "and" : "or");
            while (any(depth > 9 ? 9 : 3) == 0) { l.add("not"); depth++; }
            if (any(4) == 0) { l.add("("); condition(l, depth + 1); l.add(")"); }
            else { expression(l, 9); l.add(new String[] {"<", "=", ">"}[any(3)]); expression(l, 9); }
        }
    }
}
