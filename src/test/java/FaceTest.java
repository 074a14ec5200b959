import java.lang.reflect.Field;
import java.lang.reflect.Method;
import java.lang.reflect.Modifier;
import java.nio.file.Files;
import java.nio.file.Path;
import java.util.ArrayList;
import java.util.List;
import java.util.TreeSet;
import java.util.Set;
import java.util.regex.Matcher;
import java.util.regex.Pattern;

/** The document's face and what of LANGUAGE.md can be seen from the class and its text. */
public final class FaceTest {
    private static final String FACE = "int state(int) int quill(int,int) int clerk(int) int deed(int) boolean set(int,int,int) boolean act(int,int,int)"
        + " int hours(int) int feed(int,int,int,int,int) boolean end(int) int text(int) int fault(int) int of(int,int) int who(int,int)"
        + " int deedOf(int,int) int book(int,int) int goes(int,int) int done(int) int soon(int,int) int flock(int,int) int letters(int)"
        + " int page(int,int) int stamp(int) int stamps(int) int scratch(int,int) int threes(int,int) int curve(int,int,int)"
        + " int quire(int,int,int) boolean dot(int,int,int) int dots(int) int cut(int) int planks(int,int) int sign(int) int read(int)"
        + " int leg(int) int line(int) int water(int,int,int) int weight(int) int lift(int,int) int heir(int) int seal(int,int)"
        + " int game(int,int) boolean undo() boolean image(boolean) int look(int)";
    private static int wrong = 0;
    private static int right = 0;

    private static void due(String what, boolean so) {
        if (so) { right++; return; }
        wrong++;
        System.out.println("not so: " + what);
    }

    public static void main(String[] args) throws Exception {
        Set<String> due = new TreeSet<>(List.of(FACE.replace("int ", "int_").replace("boolean ", "boolean_").split(" ")));
        Set<String> has = new TreeSet<>();
        Set<String> names = new TreeSet<>();
        for (Method m : QuillDesk.class.getDeclaredMethods()) {
            if (Modifier.isPrivate(m.getModifiers()) || m.isSynthetic()) continue;
            List<String> types = new ArrayList<>();
            for (Class<?> c : m.getParameterTypes()) types.add(c.getName());
            due(m.getName() + " is public and not static", Modifier.isPublic(m.getModifiers()) && !Modifier.isStatic(m.getModifiers()));
            has.add(m.getReturnType().getName() + "_" + m.getName() + "(" + String.join(",", types) + ")");
            names.add(m.getName());
        }
        due("the methods are those of the document: " + has, has.equals(due));
        due("44 of them", names.size() == 44);
        due("one constructor, public, without arguments", QuillDesk.class.getDeclaredConstructors().length == 1 && QuillDesk.class.getConstructors().length == 1
            && QuillDesk.class.getConstructors()[0].getParameterCount() == 0);
        due("the class is final", Modifier.isFinal(QuillDesk.class.getModifiers()));
        due("NONE alone is public", QuillDesk.class.getFields().length == 1 && QuillDesk.NONE == -1);
        members(QuillDesk.class, names);
        due("some twelve classes", QuillDesk.class.getDeclaredClasses().length <= 14);
        for (Class<?> c : QuillDesk.class.getDeclaredClasses()) {
            due(c + " is static", Modifier.isStatic(c.getModifiers()));
            members(c, names);
        }
        text(Files.readString(Path.of("src/main/java/QuillDesk.java")));
        System.out.println(right + " passed, " + wrong + " failed");
        if (wrong != 0) System.exit(1);
    }

    private static void members(Class<?> c, Set<String> names) {
        int fields = 0;
        for (Field f : c.getDeclaredFields()) {
            if (f.isSynthetic()) continue;
            if (Modifier.isStatic(f.getModifiers())) due(f + " is final", Modifier.isFinal(f.getModifiers()));
            else fields++;
            if (c == QuillDesk.class && !f.getName().equals("NONE")) due(f + " is private", Modifier.isPrivate(f.getModifiers()));
        }
        due(c + " has some twenty fields: " + fields, fields <= 24);
        for (Method m : c.getDeclaredMethods()) {
            due(m + " takes seven parameters at most", m.getParameterCount() <= 7);
            if (Modifier.isPrivate(m.getModifiers())) due(m + " bears no name of the face", !names.contains(m.getName()));
        }
    }

    private static void text(String source) {
        String bare = source.replaceAll("(?s)/\\*.*?\\*/", " ").replaceAll("//[^\n]*", " ").replaceAll("\"[^\"\n]*\"", "\"\"").replaceAll("'[^'\n]+'", "' '");
        for (String word : new String[] {"throw", "throws", "try", "catch", "finally", "synchronized", "assert", "package", "hashCode", "\\w+Exact"}) {
            due("no " + word, !Pattern.compile("\\b" + word + "\\b").matcher(bare).find());
        }
        due("no method reference", !bare.contains("::"));
        due("no lambda", !bare.replaceAll("\\b(case\\b[^:;{}]*?|default\\s*)->", "").contains("->"));
        due("no text joined by +", !bare.contains("\" +") && !bare.contains("+ \""));
        for (char c : source.toCharArray()) if (c > 126) due("signs of 1 to 127", false);
        Matcher imports = Pattern.compile("\\bimport\\s+([^;]+);").matcher(bare);
        while (imports.find()) due(imports.group(), Set.of("java.util.ArrayList", "java.util.List", "java.util.Arrays", "java.util.Iterator", "java.util.*").contains(imports.group(1)));
        Matcher library = Pattern.compile("\\b(System|Arrays|List)\\.(\\w+)").matcher(bare);
        while (library.find()) due(library.group(), Set.of("System.arraycopy", "Arrays.copyOf", "Arrays.copyOfRange", "Arrays.fill", "List.of").contains(library.group()));
        due("no clock, no randomness, no thread, no file", !Pattern.compile("\\b(Random|Thread|Instant|LocalDate\\w*|File\\w*|Path|Runtime|random)\\b").matcher(bare).find());
        methodsAreShort(source);
    }

    private static void methodsAreShort(String source) {
        String[] lines = source.split("\n");
        int begin = -1;
        String indent = "";
        for (int i = 0; i < lines.length; i++) {
            Matcher head = Pattern.compile("^( {4}| {8})(?!private static final class)\\S.*\\) \\{$").matcher(lines[i]);
            if (begin < 0 && head.find()) { begin = i; indent = head.group(1); }
            else if (begin >= 0 && lines[i].equals(indent + "}")) {
                due(lines[begin] + " is short: " + (i - begin + 1), i - begin + 1 <= 70);
                begin = -1;
            }
        }
    }
}
