import java.io.ByteArrayOutputStream;
import java.io.PrintStream;
import java.nio.charset.StandardCharsets;
import java.nio.file.Files;
import java.nio.file.Path;
import java.util.regex.Matcher;
import java.util.regex.Pattern;

/** README.md's example is the one that can be run, and it prints what README.md says. */
public final class ReadmeTest {
    private static int wrong = 0;

    private static void due(String what, boolean so) {
        if (so) return;
        wrong++;
        System.out.println("not so: " + what);
    }

    private static boolean block(String readme, String kind, String text) {
        Matcher m = Pattern.compile("```" + kind + "\n(.*?)```", Pattern.DOTALL).matcher(readme);
        while (m.find()) if (m.group(1).equals(text)) return true;
        return false;
    }

    private static String printed() {
        PrintStream out = System.out;
        ByteArrayOutputStream bytes = new ByteArrayOutputStream();
        System.setOut(new PrintStream(bytes, true, StandardCharsets.UTF_8));
        Example.main(new String[0]);
        System.setOut(out);
        return bytes.toString(StandardCharsets.UTF_8).replace("\r\n", "\n");
    }

    public static void main(String[] args) throws Exception {
        String readme = Files.readString(Path.of("README.md"));
        due("README.md holds src/test/java/Example.java", block(readme, "java", Files.readString(Path.of("src/test/java/Example.java"))));
        due("README.md says what it prints", block(readme, "text", printed()));
        for (java.lang.reflect.Method m : QuillDesk.class.getDeclaredMethods()) {
            if (!java.lang.reflect.Modifier.isPublic(m.getModifiers())) continue;
            due("README.md names " + m.getName(), Pattern.compile("`" + m.getName() + "[`(]").matcher(readme).find());
        }
        System.out.println(wrong == 0 ? "README.md's example holds" : wrong + " of README.md do not hold");
        if (wrong != 0) System.exit(1);
    }
}
