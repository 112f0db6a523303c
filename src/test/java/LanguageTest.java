import java.io.IOException;
import java.lang.reflect.Field;
import java.lang.reflect.Method;
import java.lang.reflect.Modifier;
import java.nio.file.Files;
import java.nio.file.Path;
import java.util.ArrayList;
import java.util.Arrays;
import java.util.List;
import java.util.Map;
import java.util.Set;
import java.util.TreeMap;
import java.util.TreeSet;
import java.util.regex.Matcher;
import java.util.regex.Pattern;

/** Those rules of LANGUAGE.md that a program can look at: in the class itself, or in the words of its file. */
public final class LanguageTest {
    private static final Check CHECK = new Check("LanguageTest");
    private static final Path FILE = Path.of("src/main/java/GossipNodes.java");
    private static final Pattern METHOD =
            Pattern.compile(" +(?:(?:public|private|static|final) )*(?:[\\w\\[\\]]+ )?(\\w+)\\([\\w\\[\\], ]*\\) \\{");
    private static final Set<String> NO_METHODS = Set.of("if", "for", "while", "switch", "catch");

    public static void main(String[] args) throws IOException {
        List<String> lines = withoutComments(Files.readAllLines(FILE));
        String text = String.join("\n", lines);
        List<Class<?>> classes = new ArrayList<>(List.of(GossipNodes.class.getDeclaredClasses()));
        classes.add(GossipNodes.class);
        noPrivateMethodBearsAPublicName(classes);
        onlyOwnTypesAndTheLibrary(text, classes);
        staticFieldsAreConstants(classes);
        noWordsThatAreRuledOut(text);
        sizes(classes);
        Map<String, String> bodies = bodiesOf(lines);
        CHECK.due("methods are found in the file", bodies.size() > 50, true);
        methodsAreShort(bodies);
        callsAreShallow(bodies);
        CHECK.end();
    }

    private static List<String> withoutComments(List<String> lines) {
        String text = String.join("\n", lines).replaceAll("(?s)/\\*.*?\\*/", "").replaceAll("//[^\n]*", "");
        return Arrays.asList(text.split("\n"));
    }

    private static void noPrivateMethodBearsAPublicName(List<Class<?>> classes) {
        CHECK.sentence("No private method bears the name of a public one.");
        Set<String> open = new TreeSet<>();
        for (Method method : GossipNodes.class.getDeclaredMethods()) {
            if (Modifier.isPublic(method.getModifiers())) {
                open.add(method.getName());
            }
        }
        for (Class<?> one : classes) {
            for (Method method : one.getDeclaredMethods()) {
                if (!Modifier.isPublic(method.getModifiers())) {
                    CHECK.due(one + " " + method.getName(), open.contains(method.getName()), false);
                }
            }
        }
    }

    private static void onlyOwnTypesAndTheLibrary(String text, List<Class<?>> classes) {
        CHECK.sentence("The library: only what stands here.");
        Set<String> known = new TreeSet<>(Set.of("Integer", "Math"));
        for (Class<?> one : classes) {
            known.add(one.getSimpleName());
        }
        Matcher name = Pattern.compile("\\b[A-Z]\\w*[a-z]\\w*\\b").matcher(text);
        while (name.find()) {
            CHECK.due(name.group(), known.contains(name.group()), true);
        }
        Matcher call = Pattern.compile("\\b(?:Integer|Math)\\.(\\w+)").matcher(text);
        while (call.find()) {
            CHECK.due(call.group(), Set.of("bitCount", "min", "max").contains(call.group(1)), true);
        }
    }

    private static void staticFieldsAreConstants(List<Class<?>> classes) {
        CHECK.sentence("Static fields are final");
        for (Class<?> one : classes) {
            for (Field field : one.getDeclaredFields()) {
                if (Modifier.isStatic(field.getModifiers())) {
                    CHECK.due(one + " " + field.getName() + " is final", Modifier.isFinal(field.getModifiers()), true);
                    CHECK.due(one + " " + field.getName() + " is an int", field.getType() == int.class, true);
                }
            }
        }
    }

    /** The class needs none of what the rules allow only in part, so it is looked at whole. */
    private static void noWordsThatAreRuledOut(String text) {
        CHECK.sentence("nothing else ever reaches its caller");
        Set<String> ruledOut = Set.of("package", "import", "throw", "throws", "try", "catch", "finally", "synchronized",
                "assert", "instanceof", "double", "float", "native", "volatile", "transient", "this", "super", "null");
        Set<String> words = new TreeSet<>(Arrays.asList(text.split("\\W+")));
        for (String word : ruledOut) {
            CHECK.due(word, words.contains(word), false);
        }
        for (String sign : new String[] {"->", "::", "\"", "@", "[][]"}) {
            CHECK.due(sign, text.contains(sign), false);
        }
    }

    private static void sizes(List<Class<?>> classes) {
        CHECK.sentence("the file has at most some twelve classes, and a class some twenty fields beside its constants");
        CHECK.due(classes.size() + " classes", classes.size() <= 12, true);
        for (Class<?> one : classes) {
            long fields = Arrays.stream(one.getDeclaredFields()).filter(f -> !Modifier.isStatic(f.getModifiers())).count();
            CHECK.due(one + " has " + fields + " fields", fields <= 20, true);
        }
        CHECK.sentence("A method takes at most seven parameters.");
        for (Class<?> one : classes) {
            for (Method method : one.getDeclaredMethods()) {
                CHECK.due(one + " " + method.getName(), method.getParameterCount() <= 7, true);
            }
        }
    }

    /** Methods of the same name are taken together, which can only make the calls look deeper. */
    private static Map<String, String> bodiesOf(List<String> lines) {
        Map<String, String> bodies = new TreeMap<>();
        for (int i = 0; i < lines.size(); i++) {
            Matcher head = METHOD.matcher(lines.get(i));
            if (!head.matches() || NO_METHODS.contains(head.group(1))) {
                continue;
            }
            StringBuilder body = new StringBuilder();
            int open = 1;
            while (open > 0) {
                i++;
                body.append(lines.get(i)).append('\n');
                open += count(lines.get(i), '{') - count(lines.get(i), '}');
            }
            bodies.merge(head.group(1), body.toString(), String::concat);
        }
        return bodies;
    }

    private static int count(String line, char sign) {
        return (int) line.chars().filter(c -> c == sign).count();
    }

    private static void methodsAreShort(Map<String, String> bodies) {
        CHECK.sentence("Methods stay short (some sixty lines)");
        bodies.forEach((name, body) -> CHECK.due(name, count(body, '\n') <= 60, true));
    }

    private static void callsAreShallow(Map<String, String> bodies) {
        CHECK.sentence("calls that are no recursion go at most eight deep");
        for (String name : bodies.keySet()) {
            int depth = depthOf(name, bodies, 1);
            CHECK.due(name + " goes " + depth + " deep", depth <= 8, true);
        }
    }

    /** How many calls stand open at most from the given one on; past 20 it must be one that calls itself. */
    private static int depthOf(String name, Map<String, String> bodies, int depth) {
        int deepest = depth;
        Matcher call = Pattern.compile("\\b(\\w+)\\(").matcher(bodies.get(name));
        while (call.find() && deepest <= 20) {
            if (bodies.containsKey(call.group(1))) {
                deepest = Math.max(deepest, depthOf(call.group(1), bodies, depth + 1));
            }
        }
        return deepest;
    }
}
