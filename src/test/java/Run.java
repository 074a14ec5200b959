import java.lang.reflect.InvocationTargetException;
import java.lang.reflect.Method;
import java.nio.charset.StandardCharsets;
import java.util.HashMap;
import java.util.Map;
import java.util.regex.Matcher;
import java.util.regex.Pattern;

/**
 * The calls of one object, each told as a text: "quill(8, 0)", "set(0, 0, 5) = true" with the answer that is
 * due, "3 times hours(1)", "tell(2, 'bird 1 wild 1 fine 1;')" for a text fed, ended and told, "fed('..')" for one
 * that is put on THE TAPE only, "calm()" and "busy()" for the desks below. MIN, MAX and NONE are what they say.
 */
final class Run {
    /** Two clerks hold their quills at their deeds; nothing flies and nothing is blotted. */
    static final String[] CALM = {"quill(3, 20)", "quill(4, 5)", "clerk(5)", "clerk(9)", "deed(8)", "deed(12)",
        "tell(0, 'blots 0;lifts 0;')", "act(0, 0, 0)", "act(0, 1, 1)", "act(2, 0, 0)", "act(2, 1, 1)"};

    /** One clerk writes three lines in an hour. */
    static final String[] ONE = {"quill(0, 40)", "clerk(5)", "deed(20)", "act(0, 0, 0)", "act(2, 0, 0)", "tell(0, 'lifts 0;blots 0;writes 3;')"};

    /** All has begun: one quill is gone, one deed done, six can be undone, each row is told, something is on THE TAPE. */
    static final String[] BUSY = {"quill(3, 40)", "quill(7, 99)", "quill(0, 0)", "quill(5, 60)", "clerk(5)", "clerk(0)", "clerk(9)",
        "deed(20)", "deed(9)", "deed(99)", "deed(4)", "tell(2, 'bird 3 wild 2 fine 6;')", "tell(3, 'deed 2 after 0;')",
        "tell(1, 'at 6 clerk 0 write 2;')", "tell(0, 'lifts 1000 when bird=5;lifts 0;blots 500 when hand=9;blots 0;')",
        "act(0, 0, 3)", "act(2, 0, 1)", "hours(1)", "act(0, 0, 0)", "hours(2)", "act(0, 2, 1)", "act(2, 2, 0)",
        "letters(5)", "letters(12)", "letters(19)", "stamp(4)", "stamp(9)", "dot(0, 1, 2)", "dot(1, 7, 5)", "dot(2, 3, 11)",
        "cut(30)", "cut(10)", "sign(3)", "sign(1)", "sign(2)", "leg(170)", "leg(20)", "weight(3)", "weight(1)", "heir(6)", "heir(6)", "heir(2)",
        "image(true)", "act(2, 0, 0)", "hours(1)", "tell(0, 'writes 1/0;')", "fed('writes 7;')"};

    private static final Pattern CALL = Pattern.compile("(?:(\\d+) times )?(\\w+)\\((.*)\\)(?: = (-?\\w+))?", Pattern.DOTALL);
    private static final Map<String, Method> FACE = new HashMap<>();
    static {
        for (Method m : Counted.class.getDeclaredMethods()) FACE.put(m.getName(), m);
    }

    final Counted desk = new Counted();
    final StringBuilder wrong = new StringBuilder();

    void all(String... calls) {
        for (String call : calls) call(call);
    }

    /** What the call answers (a boolean as 1 or 0); what is not as due is put into wrong. */
    int call(String text) {
        Matcher m = CALL.matcher(text);
        if (!m.matches()) throw new IllegalArgumentException(text);
        int times = m.group(1) == null ? 1 : Integer.parseInt(m.group(1));
        int got = 0;
        for (int i = 0; i < times; i++) {
            got = answer(m.group(2), m.group(3));
            if (m.group(4) != null && got != value(m.group(4))) wrong.append("  ").append(text).append(": it answered ").append(got).append('\n');
        }
        return got;
    }

    void due(String what, int got, int want) {
        if (got != want) wrong.append("  ").append(what).append(" = ").append(want).append(": it is ").append(got).append('\n');
    }

    private int answer(String name, String args) {
        switch (name) {
            case "one": all(ONE); return 0;
            case "calm": all(CALM); return 0;
            case "busy": all(BUSY); return 0;
            case "fed": return put(args.substring(1, args.length() - 1));
            case "tell":
                put(args.substring(args.indexOf('\'') + 1, args.length() - 1));
                return desk.text(value(args.substring(0, args.indexOf(','))));
            default: return invoke(name, args);
        }
    }

    /** Behind what is on THE TAPE: how many bytes it has then. */
    int put(String text) {
        byte[] bytes = text.getBytes(StandardCharsets.ISO_8859_1);
        int has = 0;
        for (int i = 0; i < bytes.length; i += 20) {
            int[] five = new int[5];
            for (int j = 0; j < 20; j++) five[j / 4] = five[j / 4] << 8 | (i + j < bytes.length ? bytes[i + j] & 255 : 0);
            has = desk.feed(five[0], five[1], five[2], five[3], five[4]);
            if (has == -1) return -1;
            if (i + 20 > bytes.length) {
                has -= i + 20 - bytes.length;
                desk.end(has);
            }
        }
        return has;
    }

    private int invoke(String name, String args) {
        Method method = FACE.get(name);
        if (method == null) throw new IllegalArgumentException(name);
        String[] parts = args.isBlank() ? new String[0] : args.split(", ");
        Object[] values = new Object[parts.length];
        for (int i = 0; i < parts.length; i++) values[i] = method.getParameterTypes()[i] == boolean.class ? (Object) (value(parts[i]) == 1) : value(parts[i]);
        try {
            Object got = method.invoke(desk, values);
            return got instanceof Boolean ? (Boolean) got ? 1 : 0 : (Integer) got;
        } catch (InvocationTargetException e) {
            throw new IllegalStateException(name + "(" + args + ") threw " + e.getCause());
        } catch (IllegalAccessException e) {
            throw new IllegalStateException(e);
        }
    }

    static int value(String s) {
        switch (s.trim()) {
            case "MIN": return Integer.MIN_VALUE;
            case "MAX": return Integer.MAX_VALUE;
            case "NONE": return QuillDesk.NONE;
            case "true": return 1;
            case "false": return 0;
            default: return Integer.parseInt(s.trim());
        }
    }
}
