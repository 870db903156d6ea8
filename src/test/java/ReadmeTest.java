import java.io.ByteArrayOutputStream;
import java.io.File;
import java.io.PrintStream;
import java.net.URL;
import java.net.URLClassLoader;
import java.nio.file.Files;
import java.nio.file.Path;
import java.util.Arrays;
import java.util.List;
import java.util.regex.Matcher;
import java.util.regex.Pattern;
import javax.tools.ToolProvider;

/** README.md: its program prints what stands under it, its commands are the calls beside them, no name is left out. */
public final class ReadmeTest {
    private static final List<String> OBJECT_METHODS = List.of("wait", "notify", "notifyAll", "getClass", "equals",
            "hashCode", "toString");

    public static void main(String[] args) throws Exception {
        String readme = Files.readString(Path.of("README.md"));
        Check.due("what the program prints", printedBy(block(readme, "java")), block(readme, "text"));
        namesAllCalls(readme);
        namesAllTests(readme);
        commandsAreCalls(readme);
        Check.finish();
    }

    private static String block(String readme, String language) {
        Matcher block = Pattern.compile("```" + language + "\n(.*?)```", Pattern.DOTALL).matcher(readme);
        return block.find() ? block.group(1) : "no block of " + language;
    }

    private static String printedBy(String program) throws Exception {
        Path folder = Files.createTempDirectory("readme");
        Path source = folder.resolve("Example.java");
        Files.writeString(source, program);
        int code = ToolProvider.getSystemJavaCompiler().run(null, null, null, "-cp",
                System.getProperty("java.class.path"), "-d", folder.toString(), source.toString());
        Check.due("the compiler's exit code", code, 0);
        String printed = outputOfMain(folder);
        for (File file : folder.toFile().listFiles()) {
            Files.delete(file.toPath());
        }
        Files.delete(folder);
        return printed;
    }

    private static String outputOfMain(Path folder) throws Exception {
        ByteArrayOutputStream printed = new ByteArrayOutputStream();
        PrintStream before = System.out;
        try (URLClassLoader loader = new URLClassLoader(new URL[] {folder.toUri().toURL()})) {
            System.setOut(new PrintStream(printed, true));
            loader.loadClass("Example").getMethod("main", String[].class).invoke(null, (Object) new String[0]);
        } finally {
            System.setOut(before);
        }
        return printed.toString().replace(System.lineSeparator(), "\n");
    }

    private static void namesAllCalls(String readme) {
        String tables = readme.substring(readme.indexOf("### Calls"), readme.indexOf("### Commands"));
        Arrays.stream(PrioritySearchTree.class.getMethods()).map(method -> method.getName())
                .filter(name -> !OBJECT_METHODS.contains(name))
                .forEach(name -> Check.due("the call " + name, tables.contains("`" + name + "`"), true));
        Arrays.stream(PrioritySearchTree.class.getFields()).map(field -> field.getName())
                .forEach(name -> Check.due("the reason " + name, tables.contains("| `" + name + "` |"), true));
    }

    private static void namesAllTests(String readme) {
        for (String file : new File("src/test/java").list()) {
            if (file.endsWith("Test.java")) {
                String row = "| `" + file.replace(".java", "") + "` |";
                Check.due("the row " + row, readme.contains(row), true);
            }
        }
    }

    /** Each command of the table changes what the call beside it changes. */
    private static void commandsAreCalls(String readme) throws Exception {
        Matcher row = Pattern.compile("\\| `(\\w[^`]*)` \\| `(\\w+)\\(([^)]*)\\)` \\|").matcher(readme);
        int rows = 0;
        for (; row.find(); rows++) {
            PrioritySearchTree byCommand = exampleTree();
            PrioritySearchTree byCall = exampleTree();
            String command = row.group(1);
            Check.due("execute of " + command, Check.run(byCommand, command), 1);
            call(byCall, row.group(2), Arrays.stream(row.group(3).split(", ")).map(Integer::valueOf).toArray());
            String data = Twins.rest(byCommand);
            Check.due("all after " + command, data, Twins.rest(byCall));
            Check.due(command + " changes nothing", data.equals(Twins.rest(exampleTree())), false);
        }
        Check.due("commands in the table", rows, 7);
    }

    private static PrioritySearchTree exampleTree() {
        PrioritySearchTree tree = Check.tree(12, 90, 3, 5, 40, 7);
        tree.setWindow(0, 0, 20, 5, 3);
        return tree;
    }

    private static void call(PrioritySearchTree tree, String name, Object[] numbers) throws Exception {
        Class<?>[] types = new Class<?>[numbers.length];
        Arrays.fill(types, int.class);
        PrioritySearchTree.class.getMethod(name, types).invoke(tree, numbers);
    }
}
