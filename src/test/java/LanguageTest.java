import java.io.IOException;
import java.lang.reflect.Member;
import java.lang.reflect.Method;
import java.lang.reflect.Modifier;
import java.nio.file.Files;
import java.nio.file.Path;
import java.util.ArrayList;
import java.util.Arrays;
import java.util.List;
import java.util.Set;
import java.util.regex.Matcher;
import java.util.regex.Pattern;
import java.util.stream.Collectors;
import java.util.stream.Stream;

/** The face that the document lists, and those rules of ../shared/LANGUAGE.md that can be read off the source. */
public final class LanguageTest {
    private static final String[] BANNED = {"\\btry\\b", "\\bcatch\\b", "\\bfinally\\b", "\\bsynchronized\\b",
        "\\bassert\\b", "->", "::", "\\bthis\\s*\\)", "\\bSystem\\b", "\\bThread\\b", "Exact\\b", "\\bDouble\\b",
        "\\bFloat\\b", "\\bObject\\b", "\\bequals\\b", "\\bhashCode\\b", "\\btoString\\b", "\"\\s*\\+", "\\+\\s*\""};

    public static void main(String[] args) throws IOException {
        String source = Files.readString(Path.of("src/main/java/PrioritySearchTree.java"));
        List<String> face = face(Files.readString(Path.of("../shared/DOC.md")));
        faceIsWhole(source, face);
        nothingElseIsVisible(face);
        sourceKeepsRules(source);
        methodsKeepRules(source);
        Check.finish();
    }

    private static List<String> face(String document) {
        Matcher block = Pattern.compile("```java\n(.*?)```", Pattern.DOTALL).matcher(document);
        List<String> lines = new ArrayList<>();
        if (block.find()) {
            block.group(1).lines().map(String::trim)
                    .filter(line -> line.startsWith("public ") && line.endsWith(";")).forEach(lines::add);
        }
        return lines;
    }

    private static void faceIsWhole(String source, List<String> face) {
        String folded = source.replaceAll("\\s+", " ");
        Check.due("lines of the face", face.size(), 64);
        for (String line : face) {
            String head = line.contains("(") ? line.substring(0, line.length() - 1) + " {" : line;
            Check.due("the source has " + head, folded.contains(head), true);
        }
    }

    private static void nothingElseIsVisible(List<String> face) {
        Class<?> tree = PrioritySearchTree.class;
        long visible = Stream.of(tree.getDeclaredMethods(), tree.getDeclaredFields(), tree.getDeclaredConstructors())
                .flatMap(Arrays::stream).map(member -> (Member) member)
                .filter(member -> !Modifier.isPrivate(member.getModifiers()) && !member.isSynthetic()).count();
        Check.due("visible members", visible, (long) face.size());
        Set<String> publicNames = Arrays.stream(tree.getDeclaredMethods())
                .filter(method -> Modifier.isPublic(method.getModifiers())).map(Method::getName)
                .collect(Collectors.toSet());
        List<Class<?>> classes = new ArrayList<>(List.of(tree.getDeclaredClasses()));
        Check.due("at most twelve classes", classes.size() < 12, true);
        for (Class<?> inside : classes) {
            Check.due(inside + " is static", Modifier.isStatic(inside.getModifiers()), true);
            Check.due(inside + " is not public", Modifier.isPublic(inside.getModifiers()), false);
        }
        classes.add(tree);
        for (Class<?> each : classes) {
            Check.due(each + " has at most twenty fields", Arrays.stream(each.getDeclaredFields())
                    .filter(field -> !Modifier.isStatic(field.getModifiers())).count() <= 20, true);
            for (Method method : each.getDeclaredMethods()) {
                boolean ofFace = each == tree && Modifier.isPublic(method.getModifiers());
                Check.due(method + " has a name of its own", !ofFace && publicNames.contains(method.getName()), false);
                Check.due(method + " has at most seven parameters", method.getParameterCount() <= 7, true);
            }
        }
    }

    private static void sourceKeepsRules(String source) {
        String code = source.replaceAll("(?s)/\\*.*?\\*/", "").replaceAll("//[^\n]*", "");
        String bare = code.replaceAll("\"[^\"\n]*\"", "\"\"").replaceAll("'[^']'", "0");
        for (String banned : BANNED) {
            Check.due("the code has " + banned, Pattern.compile(banned).matcher(bare).find(), false);
        }
        List<String> imports = bare.lines().filter(line -> line.startsWith("import ")).toList();
        Check.due("imports", imports, List.of("import java.util.NoSuchElementException;"));
        Check.due("signs from 1 to 127", source.chars().allMatch(sign -> sign >= 1 && sign <= 127), true);
        Matcher fields = Pattern.compile("\\bstatic (?!final\\b)[\\w\\[\\]]+ \\w+\\s*[;=]").matcher(bare);
        Check.due("a static field that is not final", fields.find(), false);
        Check.due("a static initialiser", Pattern.compile("\\bstatic\\s*\\{").matcher(bare).find(), false);
    }

    /** Methods are short, and one that calls itself is private and static. */
    private static void methodsKeepRules(String source) {
        String head = "^( +)((?:\\w+ )*[\\w\\[\\]]+) (\\w+)\\([^;{}]*\\{\n";
        Matcher method = Pattern.compile("(?m)" + head + "((?s:.*?)\n)?\\1}$").matcher(source);
        int methods = 0;
        for (; method.find(); methods++) {
            String name = method.group(3);
            String body = method.group(4) == null ? "" : method.group(4);
            Check.due("lines of " + name + " at most sixty", body.lines().count() <= 60, true);
            if (Pattern.compile("(?<![.\\w])" + name + "\\(").matcher(body).find()) {
                Check.due(name + " calls itself", method.group(2).startsWith("private static "), true);
            }
        }
        Check.due("methods found", methods > 150, true);
    }
}
