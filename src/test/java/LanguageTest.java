import java.io.IOException;
import java.nio.file.Files;
import java.nio.file.Path;
import java.util.HashMap;
import java.util.HashSet;
import java.util.List;
import java.util.Map;
import java.util.Set;
import java.util.regex.Matcher;
import java.util.regex.Pattern;

/** Those rules of ../shared/LANGUAGE.md that can be seen from the lines of the program. */
public final class LanguageTest {
    private static final String FILE = "src/main/java/MotionFloor.java";
    private static final String[] FORBIDDEN = {
        "\\bthrow\\b", "\\btry\\b", "\\bcatch\\b", "\\bsynchronized\\b", "\\bassert\\b", "->", "::", "\\bpackage\\b",
        "\\bObject\\b", "\\bMap\\b", "\\bequals\\(", "\\bhashCode\\b", "\\btoString\\b", "Exact\\b", "\\bSystem\\.(?!arraycopy)",
        "@", "\\bstatic \\{", "\\bprotected\\b", "\\bThread\\b", "\\bRandom\\b"
    };
    private static final int MOST_LINES = 60;

    public static void main(String[] args) throws IOException {
        List<String> lines = Files.readAllLines(Path.of(FILE));
        Due.due("imports", imports(lines), 1);
        Set<String> faces = new HashSet<>();
        Set<String> hidden = new HashSet<>();
        int start = 0;
        for (int i = 0; i < lines.size(); i++) {
            String line = lines.get(i);
            String code = line.replaceAll("^\\s*(/\\*\\*|\\*).*", "").replaceAll("\"[^\"]*\"", "");
            for (String sign : FORBIDDEN) {
                Due.due("line " + (i + 1) + " has " + sign, Pattern.compile(sign).matcher(code).find() ? 1 : 0, 0);
            }
            Due.due("line " + (i + 1) + " has signs beyond 127", line.chars().anyMatch(c -> c > 127) ? 1 : 0, 0);
            Matcher method = Pattern.compile("^( {4}| {8})(.*?)\\b(\\w+)\\([^;]*\\{$").matcher(code);
            if (method.find() && !code.contains(" class ")) {
                start = i;
                (method.group(2).contains("public") ? faces : hidden).add(method.group(3));
            }
            if (code.matches("( {4}| {8})\\}")) {
                Due.due("lines of the method at " + (start + 1), i - start < MOST_LINES ? 1 : 0, 1);
            }
        }
        Due.due("methods of the face and the constructor", faces.size(), 42);
        hidden.retainAll(faces);
        Due.due("hidden methods with public names " + hidden, hidden.size(), 0);
        dueFace();
        Due.end();
    }

    private static int imports(List<String> lines) {
        int imports = 0;
        for (String line : lines) {
            if (line.startsWith("import")) {
                imports++;
                Due.due(line, line.equals("import java.util.Arrays;") ? 1 : 0, 1);
            }
        }
        return imports;
    }

    /** Just the document's members are not private. */
    private static void dueFace() {
        Map<String, Integer> members = new HashMap<>();
        for (var method : MotionFloor.class.getDeclaredMethods()) {
            members.merge(method.getName(), java.lang.reflect.Modifier.isPrivate(method.getModifiers()) ? 0 : 1, Integer::sum);
        }
        Due.due("methods that are not private", members.values().stream().mapToInt(Integer::intValue).sum(), 41);
        int open = 0;
        for (var field : MotionFloor.class.getDeclaredFields()) {
            open += java.lang.reflect.Modifier.isPrivate(field.getModifiers()) ? 0 : 1;
        }
        Due.due("fields that are not private", open, 1);
        Due.due("classes inside", MotionFloor.class.getDeclaredClasses().length <= 11 ? 1 : 0, 1);
        for (Class<?> inside : MotionFloor.class.getDeclaredClasses()) {
            int fields = 0;
            for (var field : inside.getDeclaredFields()) {
                fields += java.lang.reflect.Modifier.isStatic(field.getModifiers()) ? 0 : 1;
            }
            Due.due("fields of " + inside.getSimpleName(), fields <= 20 ? 1 : 0, 1);
        }
    }
}
