import java.io.IOException;
import java.lang.reflect.Method;
import java.lang.reflect.Modifier;
import java.net.URL;
import java.net.URLClassLoader;
import java.nio.file.DirectoryStream;
import java.nio.file.Files;
import java.nio.file.Path;
import java.util.ArrayList;
import java.util.List;
import java.util.regex.Matcher;
import java.util.regex.Pattern;
import javax.tools.ToolProvider;

/**
 * What README.md shows of calls and answers is what the class answers. Its first block of Java has what the others use;
 * in those each row is a call with its answer behind it, so that none goes without being looked at.
 */
public final class ReadmeTest {
    private static final Pattern BLOCK = Pattern.compile("(?s)```java\n(.*?)```");
    private static final Pattern CALL = Pattern.compile("(\\S.*\\)); *// (-?\\d+|true|false)(: .*)?");
    private static final String NEW_OBJECT = "KnockerFaces faces = new KnockerFaces();";

    private static int wrong = 0;

    public static void main(String[] args) throws Exception {
        String page = Files.readString(Path.of("README.md"));
        List<String> blocks = new ArrayList<>();
        Matcher matcher = BLOCK.matcher(page);
        while (matcher.find()) {
            blocks.add(matcher.group(1));
        }
        complainIf(blocks.size() < 2, "the page shows no calls");
        int calls = blocks.size() < 2 ? 0 : compareAnswers(blocks.get(0), rowsOf(blocks.subList(1, blocks.size())));
        everyCallIsShown(page);
        everyTestIsNamed(page);
        System.out.println(calls + " calls shown, " + wrong + " things that are not as due");
        if (wrong != 0) {
            System.exit(1);
        }
    }

    private static void complainIf(boolean bad, String what) {
        if (bad) {
            wrong++;
            System.out.println(what);
        }
    }

    private static List<String> rowsOf(List<String> blocks) {
        List<String> rows = new ArrayList<>();
        for (String block : blocks) {
            block.lines().filter(row -> !row.isBlank()).forEach(rows::add);
        }
        return rows;
    }

    /** Makes a class of what the page shows, whose method run() answers what each call answered. */
    private static int compareAnswers(String members, List<String> rows) throws Exception {
        List<String> calls = new ArrayList<>();
        List<String> due = new ArrayList<>();
        StringBuilder body = new StringBuilder();
        for (String row : rows) {
            Matcher call = CALL.matcher(row);
            if (row.equals(NEW_OBJECT)) {
                body.append(row).append('\n');
            } else if (call.matches()) {
                body.append("answers.add(String.valueOf(").append(call.group(1)).append("));\n");
                calls.add(call.group(1));
                due.add(call.group(2));
            } else {
                complainIf(true, "a row that is no call with its answer: " + row);
            }
        }
        List<?> answers = answersOf(members, body.toString());
        for (int i = 0; i < calls.size(); i++) {
            String got = i < answers.size() ? String.valueOf(answers.get(i)) : "nothing";
            complainIf(!got.equals(due.get(i)), calls.get(i) + " answered " + got + ", the page shows " + due.get(i));
        }
        return calls.size();
    }

    private static List<?> answersOf(String members, String body) throws Exception {
        Path folder = Files.createTempDirectory("readme");
        Path source = folder.resolve("Shown.java");
        Files.writeString(source, "public final class Shown {\n" + members
                + "public static java.util.List<String> run() {\njava.util.List<String> answers = new java.util.ArrayList<>();\n"
                + body + "return answers;\n}\n}\n");
        try {
            int exit = ToolProvider.getSystemJavaCompiler().run(null, null, null, "-cp", System.getProperty("java.class.path"),
                    "-d", folder.toString(), source.toString());
            complainIf(exit != 0, "what the page shows does not compile");
            return exit == 0 ? run(folder) : List.of();
        } finally {
            Files.deleteIfExists(source);
            Files.deleteIfExists(folder.resolve("Shown.class"));
            Files.delete(folder);
        }
    }

    private static List<?> run(Path folder) throws Exception {
        try (URLClassLoader loader = new URLClassLoader(new URL[] {folder.toUri().toURL()})) {
            return (List<?>) loader.loadClass("Shown").getMethod("run").invoke(null);
        }
    }

    private static void everyCallIsShown(String page) {
        for (Method method : KnockerFaces.class.getDeclaredMethods()) {
            boolean shown = !Modifier.isPublic(method.getModifiers()) || page.contains("faces." + method.getName() + "(");
            complainIf(!shown, "the page does not show " + method.getName());
        }
    }

    private static void everyTestIsNamed(String page) throws IOException {
        try (DirectoryStream<Path> files = Files.newDirectoryStream(Path.of("src/test/java"), "*.java")) {
            for (Path file : files) {
                String name = file.getFileName().toString().replace(".java", "");
                complainIf(!page.contains("`" + name + "`"), "the page does not name " + name);
            }
        }
    }
}
