import java.io.ByteArrayOutputStream;
import java.io.IOException;
import java.io.PrintStream;
import java.net.URL;
import java.net.URLClassLoader;
import java.nio.file.Files;
import java.nio.file.Path;
import java.util.ArrayList;
import java.util.List;
import java.util.regex.Matcher;
import java.util.regex.Pattern;
import javax.tools.ToolProvider;

/** That README.md (args[1]) tells what the class answers and what DOC.md (args[2]) says. */
public final class ReadmeTest {
    private static final Checks C = new Checks("ReadmeTest");

    public static void main(String[] args) throws Exception {
        String readme = Files.readString(Path.of(args[1]));
        String document = Files.readString(Path.of(args[2]));
        theExamplePrintsWhatItsCommentsSay(readme);
        eachPromiseHasARowWithItsErrorCodesInTheirOrder(readme, document);
        eachConstantHasARowWithItsNumber(readme, document);
        eachTestIsNamed(readme);
        C.end();
    }

    private static void theExamplePrintsWhatItsCommentsSay(String readme) throws Exception {
        String example = first(Pattern.compile("(?s)```java\n(.*?)```").matcher(readme));
        List<String> due = new ArrayList<>();
        Matcher comments = Pattern.compile("println\\(.*\\); *// (-?\\d+)").matcher(example);
        while (comments.find()) {
            due.add(comments.group(1));
        }
        C.due("lines of the example", due.size(), example.split("println", -1).length - 1);
        String[] printed = run(example).split("\\R");
        C.due("lines that the example prints", printed.length, due.size());
        for (int i = 0; i < printed.length && i < due.size(); i++) {
            C.due("line " + i + " of the example", Long.parseLong(printed[i]), Long.parseLong(due.get(i)));
        }
    }

    private static String run(String example) throws Exception {
        Path folder = Files.createTempDirectory("readme");
        Path source = Files.writeString(folder.resolve("Example.java"), example);
        String classes = System.getProperty("java.class.path");
        int failed = ToolProvider.getSystemJavaCompiler().run(null, null, null,
                "-cp", classes, "-d", folder.toString(), source.toString());
        C.due("compiling the example", failed, 0);
        PrintStream screen = System.out;
        ByteArrayOutputStream caught = new ByteArrayOutputStream();
        System.setOut(new PrintStream(caught, true));
        try (URLClassLoader loader = new URLClassLoader(new URL[] {folder.toUri().toURL()})) {
            loader.loadClass("Example").getMethod("main", String[].class).invoke(null, (Object) new String[0]);
        } finally {
            System.setOut(screen);
            for (String name : new String[] {"Example.class", "Example.java", ""}) {
                Files.deleteIfExists(folder.resolve(name));
            }
        }
        return caught.toString();
    }

    private static void eachPromiseHasARowWithItsErrorCodesInTheirOrder(String readme, String document) {
        String[] promises = document.split("\n## ");
        int met = 0;
        for (String promise : promises) {
            Matcher face = Pattern.compile("Promise (\\d+): .*\\s+`(?:int )?(\\w+)\\((.*)\\)`").matcher(promise);
            if (face.lookingAt()) {
                met++;
                String call = face.group(2) + "(" + face.group(3).replace("int ", "") + ")";
                boolean isUndoable = promise.contains("Undoable.");
                String start = "| " + face.group(1) + " | `" + call + "`" + (isUndoable ? " * |" : " |");
                String row = first(Pattern.compile("(?m)^" + Pattern.quote(start) + ".*$").matcher(readme));
                due("row of " + call, namesIn(row), namesIn(returns(promise)));
            }
        }
        C.due("promises", met, 30);
    }

    /** A few promises tell what is returned without a line of its own, and name no error code. */
    private static String returns(String promise) {
        int start = promise.indexOf("\nReturns ");
        return start < 0 ? "" : promise.substring(start).strip().lines().findFirst().orElse("");
    }

    private static void eachConstantHasARowWithItsNumber(String readme, String document) {
        Matcher constants = Pattern.compile("int ([A-Z_]+) = (-\\d);").matcher(document);
        int met = 0;
        while (constants.find()) {
            met++;
            String start = "\n| `" + constants.group(1) + "` | " + constants.group(2) + " |";
            C.due("row of " + constants.group(1), readme.contains(start) ? 1 : 0, 1);
        }
        C.due("constants", met, 7);
    }

    private static void eachTestIsNamed(String readme) throws IOException {
        try (var files = Files.list(Path.of("src/test/java"))) {
            for (Path file : files.toList()) {
                String name = file.getFileName().toString().replace(".java", "");
                C.due("README names " + name, readme.contains(name) ? 1 : 0, 1);
            }
        }
    }

    private static String namesIn(String words) {
        StringBuilder names = new StringBuilder();
        Matcher matcher = Pattern.compile("\\b(NO_SUCH|BAD_VALUE|NOT_POSSIBLE|LIMIT|BAD_TEXT|NONE|WRONG)\\b")
                .matcher(words);
        while (matcher.find()) {
            names.append(matcher.group(1)).append(' ');
        }
        return names.toString();
    }

    private static void due(String what, String got, String want) {
        C.due(what + ": '" + got + "', in the document '" + want + "'", got.equals(want) ? 1 : 0, 1);
    }

    /** The first group of the first match, or the match if it has no group; nothing if there is none. */
    private static String first(Matcher matcher) {
        if (!matcher.find()) {
            C.due("found " + matcher.pattern(), 0, 1);
            return "";
        }
        return matcher.groupCount() > 0 ? matcher.group(1) : matcher.group();
    }
}
