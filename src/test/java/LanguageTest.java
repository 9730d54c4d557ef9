import java.lang.reflect.Constructor;
import java.lang.reflect.Field;
import java.lang.reflect.Method;
import java.lang.reflect.Modifier;
import java.nio.charset.StandardCharsets;
import java.nio.file.Files;
import java.nio.file.Path;
import java.util.Arrays;
import java.util.List;
import java.util.Set;
import java.util.TreeSet;
import java.util.regex.Matcher;
import java.util.regex.Pattern;

/** The face, and those rules of LANGUAGE.md that can be seen by reflection or in the text of the source. */
public final class LanguageTest {
    private static final List<String> FACE = Arrays.asList(
            "int act(int,int,int,int,int)", "int handler(int,int,int,int,int)", "int empty(int)", "int start(int,int)",
            "int turn(int,int)", "long number(int,int)", "long real(int,int)", "long small(int,int)",
            "int hold(int,int)", "int told(int,int)", "int thing(int,int)", "long item(int,int)", "long field(int,int)",
            "int ring(int)", "int trace()", "int count(int)", "int clear()");
    private static final String[] FORBIDDEN = {
        "->", "::", "import ", "package ", "synchronized", "finally", "assert ", "throw ", "catch", "Double.", "Float.",
        "StrictMath", "Thread", "Object ", "Exact(", "System.currentTimeMillis", "System.nanoTime", "Random", "var ",
        "@SuppressWarnings", "strictfp", "native ", "static {", "HashMap", "hashCode", "equals(", "toString"};

    public static void main(String[] args) throws Exception {
        constants();
        face();
        nestedClasses();
        source(Files.readString(Path.of("src/main/java/MachineWitness.java"), StandardCharsets.UTF_8));
        Check.end();
    }

    private static void constants() {
        Check.due("NONE", MachineWitness.NONE, -1);
        Check.due("BAD", MachineWitness.BAD, -1);
        Check.due("STATE", MachineWitness.STATE, -2);
        Check.due("FULL", MachineWitness.FULL, -3);
        Check.due("LOST", MachineWitness.LOST, Long.MIN_VALUE);
    }

    private static void face() {
        Class<?> type = MachineWitness.class;
        Check.due("public final", type.getModifiers(), Modifier.PUBLIC | Modifier.FINAL);
        Set<String> seen = new TreeSet<>();
        Set<String> privateNames = new TreeSet<>();
        Set<String> publicNames = new TreeSet<>();
        for (Method method : type.getDeclaredMethods()) {
            if (Modifier.isPrivate(method.getModifiers())) {
                privateNames.add(method.getName());
                continue;
            }
            publicNames.add(method.getName());
            Check.due(method + " is public", Modifier.isPublic(method.getModifiers()) ? 1 : 0, 1);
            StringBuilder text = new StringBuilder(method.getReturnType() + " " + method.getName() + "(");
            for (Class<?> parameter : method.getParameterTypes()) {
                text.append(text.charAt(text.length() - 1) == '(' ? "" : ",").append(parameter);
            }
            seen.add(text.append(")").toString());
        }
        Check.due("the methods of the face " + seen, seen.equals(new TreeSet<>(FACE)) ? 1 : 0, 1);
        privateNames.retainAll(publicNames);
        Check.due("private methods with public names " + privateNames, privateNames.size(), 0);
        Constructor<?>[] constructors = type.getDeclaredConstructors();
        Check.due("constructors", constructors.length, 1);
        Check.due("constructor", constructors[0].getModifiers(), Modifier.PUBLIC);
        Check.due("its parameters", constructors[0].getParameterCount(), 0);
        for (Field field : type.getDeclaredFields()) {
            boolean own = Modifier.isPrivate(field.getModifiers());
            boolean known = Arrays.asList("NONE", "BAD", "STATE", "FULL", "LOST").contains(field.getName());
            Check.due("field " + field.getName(), own != known ? 1 : 0, 1);
        }
    }

    private static void nestedClasses() {
        Class<?>[] all = MachineWitness.class.getDeclaredClasses();
        Check.due("twelve classes at most", all.length < 12 ? 1 : 0, 1);
        for (Class<?> type : all) {
            Check.due(type + " is static", Modifier.isStatic(type.getModifiers()) ? 1 : 0, 1);
            Check.due(type + " is not public", type.getModifiers() & (Modifier.PUBLIC | Modifier.PROTECTED), 0);
            int fields = 0;
            for (Field field : type.getDeclaredFields()) {
                boolean fixed = Modifier.isStatic(field.getModifiers());
                fields += fixed ? 0 : 1;
                if (fixed) {
                    Check.due(field + " is final", Modifier.isFinal(field.getModifiers()) ? 1 : 0, 1);
                    Check.due(field + " has a type of rule 5",
                            Set.of("int", "long", "boolean", "char", "int[]", "long[]").contains(
                                    field.getType().getSimpleName()) ? 1 : 0, 1);
                }
            }
            Check.due(type + " has twenty fields at most", fields <= 20 ? 1 : 0, 1);
            for (Method method : type.getDeclaredMethods()) {
                Check.due(method + " has seven parameters at most", method.getParameterCount() <= 7 ? 1 : 0, 1);
            }
        }
    }

    private static void source(String text) {
        String code = text.replaceAll("(?s)/\\*.*?\\*/", "").replaceAll("//[^\n]*", "");
        for (String word : FORBIDDEN) {
            Check.due("the source has '" + word + "'", code.contains(word) ? 1 : 0, 0);
        }
        for (char sign : text.toCharArray()) {
            Check.due("a sign above 127", sign <= 127 ? 1 : 0, 1);
        }
        Matcher math = Pattern.compile("\\b(Math|Long|Integer|System|Arrays)\\.(\\w+)").matcher(code);
        Set<String> known = Set.of("Math.abs", "Math.max", "Math.min", "Long.compare", "Long.MIN_VALUE",
                "Integer.compare", "System.arraycopy");
        while (math.find()) {
            Check.due("library: " + math.group(), known.contains(math.group()) ? 1 : 0, 1);
        }
        lengths(text.split("\n"));
    }

    /** A method begins with a line that ends in '{' at the depth of members and ends with the brace there. */
    private static void lengths(String[] lines) {
        int began = -1;
        for (int k = 0; k < lines.length; k++) {
            String line = lines[k];
            String indent = line.replaceAll("^(\\s*).*", "$1");
            boolean member = indent.length() == 4 || indent.length() == 8;
            if (member && line.matches("\\s*[\\w\\[\\] ]+\\(.*\\) \\{") && !line.matches("\\s*(if|for|while|switch).*")) {
                began = k;
            }
            if (began >= 0 && line.trim().equals("}")
                    && indent.equals(lines[began].replaceAll("^(\\s*).*", "$1"))) {
                Check.due("lines of " + lines[began].trim(), k - began < 60 ? 1 : 0, 1);
                began = -1;
            }
        }
    }
}
