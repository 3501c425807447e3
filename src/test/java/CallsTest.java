import java.io.PrintWriter;
import java.io.StringWriter;
import java.nio.file.Files;
import java.nio.file.Path;
import java.util.ArrayList;
import java.util.HashMap;
import java.util.List;
import java.util.Map;
import java.util.Optional;
import java.util.Set;
import java.util.TreeSet;
import java.util.regex.Matcher;
import java.util.regex.Pattern;
import java.util.spi.ToolProvider;
import java.util.stream.Stream;

/** Those rules of ../shared/LANGUAGE.md that can be seen from the compiled calls: 4 (the library), 8 and 11 (depth). */
public final class CallsTest {
    private static final int DEEPEST = 8;
    private static final int MOST_PARAMETERS = 7;
    private static final Set<String> LIBRARY = Set.of(
        "java/lang/Object.<init>", "java/lang/Math.max", "java/lang/Math.min", "java/lang/System.arraycopy",
        "java/util/Arrays.copyOf", "java/util/Arrays.fill");
    private static final Pattern CLASS = Pattern.compile("^(?:\\w+ )*class (\\S+).*\\{$");
    private static final Pattern METHOD = Pattern.compile("^ {2}(?! )(.*?)\\((.*)\\);$");
    private static final Pattern CALL = Pattern.compile("invoke\\w+ .*// (?:Interface)?Method (\\S+?):");

    /** Which methods each one calls. */
    private final Map<String, Set<String>> calls = new HashMap<>();
    private final Map<String, Integer> depths = new HashMap<>();
    private String owner = "";
    private String method = "";

    public static void main(String[] args) throws Exception {
        Optional<ToolProvider> javap = ToolProvider.findFirst("javap");
        if (javap.isEmpty()) {
            System.out.println("not looked at: this Java has no javap");
            return;
        }
        new CallsTest().look(javap.get());
        Due.end();
    }

    private void look(ToolProvider javap) throws Exception {
        StringWriter out = new StringWriter();
        List<String> words = new ArrayList<>(List.of("-c", "-p"));
        words.addAll(classFiles());
        Due.due("javap", javap.run(new PrintWriter(out), new PrintWriter(System.out), words.toArray(new String[0])), 0);
        out.toString().lines().forEach(this::read);
        Due.due("many methods were read", calls.size() > 100 ? 1 : 0, 1);
        for (Map.Entry<String, Set<String>> entry : calls.entrySet()) {
            Due.due(entry.getKey() + " goes deeper than " + DEEPEST, depth(entry.getKey(), 1) > DEEPEST ? 1 : 0, 0);
            for (String called : entry.getValue()) {
                boolean known = calls.containsKey(called) || LIBRARY.contains(called);
                Due.due(entry.getKey() + " calls " + called, known ? 1 : 0, 1);
            }
        }
    }

    private static List<String> classFiles() throws Exception {
        Path place = Path.of(MotionFloor.class.getProtectionDomain().getCodeSource().getLocation().toURI());
        Set<String> files = new TreeSet<>();
        try (Stream<Path> all = Files.list(place)) {
            all.filter(file -> file.getFileName().toString().matches("MotionFloor(\\$.*)?\\.class"))
                .forEach(file -> files.add(file.toString()));
        }
        return new ArrayList<>(files);
    }

    private void read(String line) {
        Matcher head = CLASS.matcher(line);
        if (head.matches()) {
            owner = head.group(1);
            return;
        }
        Matcher face = METHOD.matcher(line);
        if (face.matches()) {
            String[] words = face.group(1).split(" ");
            String name = words[words.length - 1];
            method = owner + "." + (name.equals(owner) ? "<init>" : name);
            calls.putIfAbsent(method, new TreeSet<>());
            int parameters = face.group(2).isEmpty() ? 0 : face.group(2).split(",").length;
            Due.due("parameters of " + method, parameters <= MOST_PARAMETERS ? 1 : 0, 1);
            return;
        }
        Matcher call = CALL.matcher(line);
        if (call.find() && calls.containsKey(method)) {
            String called = call.group(1).replace("\"", "");
            calls.get(method).add(called.contains(".") ? called : owner + "." + called);
        }
    }

    /** How deep it goes, with the library's own; far too deep if it comes back to itself. */
    private int depth(String name, int above) {
        if (above > 2 * DEEPEST) {
            return above;
        }
        Integer known = depths.get(name);
        if (known != null) {
            return known;
        }
        int deepest = 0;
        for (String called : calls.getOrDefault(name, Set.of())) {
            deepest = Math.max(deepest, depth(called, above + 1));
        }
        depths.put(name, deepest + 1);
        return deepest + 1;
    }
}
