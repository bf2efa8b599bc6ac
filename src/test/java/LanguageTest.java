import java.io.IOException;
import java.lang.reflect.Field;
import java.lang.reflect.Method;
import java.lang.reflect.Modifier;
import java.nio.file.Files;
import java.nio.file.Path;
import java.util.ArrayList;
import java.util.Arrays;
import java.util.List;
import java.util.Set;
import java.util.TreeSet;
import java.util.regex.Pattern;

/** Some rules of ../shared/LANGUAGE.md, as far as a look at the source and at the classes tells. */
public final class LanguageTest {
    private static final Check CHECK = new Check("LanguageTest");
    private static final String FACE = "person current feed end text fault by toss fish again tide played years undo of"
        + " ofBottle told is book foretold ends drift soonest relay found tossed likely odds code clear reads halves"
        + " sorters sorter writes orders sure said whose luckiest eldest crowd empty ledger image back about";
    private static final String[] NOT_ALLOWED = {
        "throw", "try", "catch", "finally", "synchronized", "assert", "Exact", "->", "::", "package", "@", "hashCode",
        "System.out", "Random", "currentTimeMillis", "nanoTime", "Thread", "native", "volatile", "transient", "NaN"};

    public static void main(String[] args) throws IOException {
        face();
        classesInside();
        source();
        CHECK.close();
    }

    private static void face() {
        Class<?> face = BottledPost.class;
        Set<String> names = new TreeSet<>();
        for (Method method : face.getDeclaredMethods()) {
            if (Modifier.isPublic(method.getModifiers())) names.add(method.getName());
            else CHECK.due("private " + method.getName(), Modifier.isPrivate(method.getModifiers()), true);
        }
        CHECK.due("the face's methods", names.equals(new TreeSet<>(Arrays.asList(FACE.split(" ")))), true);
        for (Field field : face.getDeclaredFields()) {
            boolean isPublic = field.getName().equals("NONE");
            CHECK.due("field " + field.getName(), isPublic ? Modifier.isPublic(field.getModifiers())
                : Modifier.isPrivate(field.getModifiers()), true);
        }
        CHECK.due("final", Modifier.isFinal(face.getModifiers()), true);
        CHECK.due("one constructor", face.getDeclaredConstructors().length, 1);
    }

    private static void classesInside() {
        Class<?>[] inside = BottledPost.class.getDeclaredClasses();
        CHECK.due("some twelve classes", inside.length <= 12, true);
        Set<String> names = new TreeSet<>(Arrays.asList(FACE.split(" ")));
        for (Class<?> one : inside) {
            CHECK.due(one.getName() + " static", Modifier.isStatic(one.getModifiers()), true);
            int own = 0;
            for (Field field : one.getDeclaredFields()) {
                if (!Modifier.isStatic(field.getModifiers())) own++;
                else CHECK.due(field.getName() + " final", Modifier.isFinal(field.getModifiers()), true);
            }
            CHECK.due(one.getName() + " has some twenty fields", own <= 20, true);
            for (Method method : one.getDeclaredMethods()) {
                CHECK.due(method.getName() + " is no name of the face", names.contains(method.getName()), false);
                CHECK.due(method.getName() + " has seven parameters at most", method.getParameterCount() <= 7, true);
            }
        }
    }

    /** Rule 8: a method that calls itself is private static. */
    private static void recursion(List<String> code, int first, int end) {
        String head = code.get(first);
        String name = head.replaceAll("\\(.*", "").replaceAll(".*\\W", "");
        Pattern call = Pattern.compile("(?<![.\\w])" + name + "\\(");
        boolean callsItself = code.subList(first + 1, end).stream().anyMatch(line -> call.matcher(line).find());
        CHECK.due((first + 1) + ": calls itself, and is not private static",
            callsItself && !head.contains("private static "), false);
    }

    private static void source() throws IOException {
        List<String> lines = Files.readAllLines(Path.of("src/main/java/BottledPost.java"));
        List<String> code = new ArrayList<>();
        for (String line : lines) {
            String trimmed = line.trim();
            boolean comment = trimmed.startsWith("/**") || trimmed.startsWith("*") || trimmed.startsWith("//");
            code.add(comment ? "" : line);
            CHECK.due("ASCII: " + line, line.chars().allMatch(c -> c > 0 && c < 128), true);
            if (trimmed.startsWith("import")) CHECK.due(trimmed, trimmed.equals("import java.util.Arrays;"), true);
        }
        for (int i = 0; i < code.size(); i++) {
            for (String word : NOT_ALLOWED) CHECK.due((i + 1) + ": " + word, code.get(i).contains(word), false);
            if (!code.get(i).matches(" {4}( {4})?[a-z][^=;]*\\) \\{")) continue;
            String close = code.get(i).replaceAll("\\S.*", "") + "}";
            int end = i;
            while (end < code.size() && !code.get(end).equals(close)) end++;
            CHECK.due((i + 1) + ": some sixty lines", end - i + 1 <= 60, true);
            recursion(code, i, Math.min(end, code.size()));
        }
    }
}
