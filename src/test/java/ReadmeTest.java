import java.io.ByteArrayOutputStream;
import java.io.IOException;
import java.io.PrintStream;
import java.lang.reflect.Method;
import java.lang.reflect.Modifier;
import java.nio.charset.StandardCharsets;
import java.nio.file.Files;
import java.nio.file.Path;
import java.util.ArrayList;
import java.util.List;

/** README.md tells the example as it is, what it prints, and of each call what it takes and throws. */
public final class ReadmeTest {
    private static final String EXAMPLE = "src/test/java/Example.java";

    public static void main(String[] args) throws IOException {
        String readme = read("README.md");
        String example = read(EXAMPLE);
        String code = example.substring(example.indexOf("public final class"));
        Check.due("the example in README.md", block(readme, "java"), code);
        Check.due("what it prints", block(readme, "text"), printed());
        int rows = 0;
        for (Method method : DovetailRow.class.getDeclaredMethods()) {
            if (Modifier.isPublic(method.getModifiers())) {
                checkRow(readme, method);
                rows++;
            }
        }
        Check.due("rows of calls", readme.split("\n\\| `", -1).length - 1, rows);
        Check.end();
    }

    private static String read(String path) throws IOException {
        return Files.readString(Path.of(path), StandardCharsets.UTF_8);
    }

    /** What stands between the first fence of that name and the next fence. */
    private static String block(String readme, String name) {
        String fence = "```" + name + "\n";
        int from = readme.indexOf(fence);
        int to = from < 0 ? -1 : readme.indexOf("```", from + fence.length());
        return to < 0 ? "no block" : readme.substring(from + fence.length(), to);
    }

    private static String printed() {
        ByteArrayOutputStream bytes = new ByteArrayOutputStream();
        PrintStream before = System.out;
        System.setOut(new PrintStream(bytes, true, StandardCharsets.UTF_8));
        try {
            Example.main(new String[0]);
        } finally {
            System.setOut(before);
        }
        return bytes.toString(StandardCharsets.UTF_8).replace("\r\n", "\n");
    }

    private static void checkRow(String readme, Method method) {
        String name = method.getName();
        int from = readme.indexOf("\n| `" + name + "(");
        if (from < 0) {
            Check.due(name + "'s row", "none", "one");
            return;
        }
        String row = readme.substring(from + 1, readme.indexOf('\n', from + 1));
        String[] cells = row.split(" *\\| *");
        String given = cells[1].substring(cells[1].indexOf('(') + 1, cells[1].indexOf(')'));
        int count = given.isEmpty() ? 0 : given.split(",").length;
        Check.due(name + "'s arguments", count, method.getParameterCount());
        Check.due(name + " throws", cells[3], thrown(method));
    }

    private static String thrown(Method method) {
        List<String> words = new ArrayList<>();
        for (Class<?> type : method.getExceptionTypes()) {
            words.add(type == Check.NO_SUCH ? "no such" : type == Check.RANGE ? "range" : "state");
        }
        return words.isEmpty() ? "nothing" : String.join(", ", words);
    }
}
