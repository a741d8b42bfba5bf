import java.io.ByteArrayOutputStream;
import java.io.PrintStream;
import java.net.URL;
import java.net.URLClassLoader;
import java.nio.file.Files;
import java.nio.file.Path;
import java.util.ArrayList;
import java.util.List;
import java.util.spi.ToolProvider;

/** The example of README.md compiles, prints what the comments behind its lines begin with, and README.md names every call. */
public final class ReadmeTest {
    private static final String PRINT = "System.out.println(";
    private static int wrong = 0;

    private ReadmeTest() {
    }

    private static void need(boolean holds, String what) {
        if (!holds) {
            wrong++;
            System.out.println(what);
        }
    }

    public static void main(String[] args) throws Exception {
        String readme = Files.readString(Path.of("README.md"));
        needAllCalls(readme);
        String example = example(readme);
        List<String> due = commentsOf(example);
        List<String> printed = printedBy(example);
        need(due.size() >= 10, "README.md has only " + due.size() + " lines that print");
        need(due.size() == printed.size(), due.size() + " lines print, " + printed.size() + " were printed");
        for (int i = 0; i < Math.min(due.size(), printed.size()); i++) {
            need(due.get(i).matches("\\Q" + printed.get(i) + "\\E(?![\\w.]).*"), "due: " + due.get(i) + ", printed: " + printed.get(i));
        }
        System.out.println(wrong == 0 ? "the example of README.md holds" : wrong + " faults");
        if (wrong != 0) {
            System.exit(1);
        }
    }

    private static void needAllCalls(String readme) {
        for (java.lang.reflect.Method method : Tuninghouse.class.getDeclaredMethods()) {
            if (java.lang.reflect.Modifier.isPublic(method.getModifiers())) {
                need(readme.contains("`" + method.getName() + "`"), "README.md does not name " + method.getName());
            }
        }
    }

    private static String example(String readme) {
        int from = readme.indexOf("```java\n");
        int to = readme.indexOf("\n```", from + 1);
        need(from >= 0 && to > from, "README.md has no example");
        return from >= 0 && to > from ? readme.substring(from + "```java\n".length(), to) : "";
    }

    private static List<String> commentsOf(String example) {
        List<String> comments = new ArrayList<>();
        for (String line : example.split("\n")) {
            if (line.contains(PRINT)) {
                int comment = line.indexOf("// ");
                comments.add(comment < 0 ? "" : line.substring(comment + 3));
            }
        }
        return comments;
    }

    private static List<String> printedBy(String example) throws Exception {
        Path folder = Files.createTempDirectory("readme");
        Path source = folder.resolve("Example.java");
        Path compiled = folder.resolve("Example.class");
        try {
            Files.writeString(source, example);
            ToolProvider javac = ToolProvider.findFirst("javac").orElseThrow();
            int result = javac.run(System.out, System.out, "-d", folder.toString(), "-cp", System.getProperty("java.class.path"), source.toString());
            need(result == 0, "the example does not compile");
            return result == 0 ? run(folder) : List.of();
        } finally {
            Files.deleteIfExists(source);
            Files.deleteIfExists(compiled);
            Files.deleteIfExists(folder);
        }
    }

    private static List<String> run(Path folder) throws Exception {
        PrintStream before = System.out;
        ByteArrayOutputStream printed = new ByteArrayOutputStream();
        try (URLClassLoader loader = new URLClassLoader(new URL[] {folder.toUri().toURL()}, ReadmeTest.class.getClassLoader())) {
            System.setOut(new PrintStream(printed, true));
            loader.loadClass("Example").getMethod("main", String[].class).invoke(null, (Object) new String[0]);
        } finally {
            System.setOut(before);
        }
        String all = printed.toString().strip();
        return all.isEmpty() ? List.of() : List.of(all.split("\\R"));
    }
}
