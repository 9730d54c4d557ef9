import java.lang.reflect.Method;
import java.lang.reflect.Modifier;
import java.nio.charset.StandardCharsets;
import java.nio.file.Files;
import java.nio.file.Path;
import java.util.List;
import java.util.Set;
import java.util.TreeSet;
import java.util.regex.Matcher;
import java.util.regex.Pattern;
import java.util.stream.Collectors;
import java.util.stream.Stream;

/** README.md: each call of its example answers what stands behind it; all methods and all tests are told there. */
public final class ReadmeTest {
    private static final Pattern CALL = Pattern.compile("witness\\.(\\w+)\\(([-\\d, ]*)\\); +// (-?\\d+): \\S.*");
    private static final String FIRST_LINE = "MachineWitness witness = new MachineWitness();";

    public static void main(String[] args) throws Exception {
        String text = Files.readString(Path.of("README.md"), StandardCharsets.UTF_8);
        example(exampleOf(text));
        tests(text);
        Check.end();
    }

    private static List<String> exampleOf(String text) {
        Matcher block = Pattern.compile("(?s)```java\n(.*?)```").matcher(text);
        Check.due("there is an example", block.find() ? 1 : 0, 1);
        return block.group(1).lines().collect(Collectors.toList());
    }

    private static void example(List<String> lines) throws Exception {
        Check.due("the example begins with a new object", lines.get(0).equals(FIRST_LINE) ? 1 : 0, 1);
        MachineWitness witness = new MachineWitness();
        Set<String> used = new TreeSet<>();
        for (String line : lines.subList(1, lines.size())) {
            if (line.isEmpty() || line.startsWith("//")) {
                continue;
            }
            Matcher call = CALL.matcher(line);
            Check.due("a call with its answer: " + line, call.matches() ? 1 : 0, 1);
            if (call.matches()) {
                used.add(call.group(1));
                Check.due(line, answerOf(witness, call.group(1), call.group(2)), Long.parseLong(call.group(3)));
            }
        }
        Check.due("methods in the example " + used, used.equals(face()) ? 1 : 0, 1);
    }

    private static long answerOf(MachineWitness witness, String name, String numbers) throws Exception {
        String[] parts = numbers.isEmpty() ? new String[0] : numbers.split(", ");
        Class<?>[] types = new Class<?>[parts.length];
        Object[] values = new Object[parts.length];
        for (int k = 0; k < parts.length; k++) {
            types[k] = int.class;
            values[k] = Integer.valueOf(parts[k]);
        }
        return ((Number) MachineWitness.class.getMethod(name, types).invoke(witness, values)).longValue();
    }

    private static Set<String> face() {
        Set<String> names = new TreeSet<>();
        for (Method method : MachineWitness.class.getDeclaredMethods()) {
            if (Modifier.isPublic(method.getModifiers())) {
                names.add(method.getName());
            }
        }
        return names;
    }

    private static void tests(String text) throws Exception {
        List<String> names;
        try (Stream<Path> files = Files.list(Path.of("src/test/java"))) {
            names = files.map(file -> file.getFileName().toString()).filter(name -> name.endsWith("Test.java"))
                    .map(name -> name.substring(0, name.length() - ".java".length())).collect(Collectors.toList());
        }
        for (String name : names) {
            Check.due(name + " is told", text.contains("`" + name + "`") ? 1 : 0, 1);
        }
        Matcher told = Pattern.compile("`(\\w+Test)`").matcher(text);
        while (told.find()) {
            Check.due(told.group(1) + " is there", names.contains(told.group(1)) ? 1 : 0, 1);
        }
    }
}
