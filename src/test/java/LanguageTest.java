import java.io.File;
import java.io.PrintWriter;
import java.io.StringWriter;
import java.lang.reflect.Constructor;
import java.lang.reflect.Field;
import java.lang.reflect.Method;
import java.lang.reflect.Modifier;
import java.nio.file.Files;
import java.nio.file.Path;
import java.util.ArrayList;
import java.util.List;
import java.util.Set;
import java.util.regex.Matcher;
import java.util.regex.Pattern;
import java.util.spi.ToolProvider;

/**
 * What of ../shared/LANGUAGE.md can be looked up in the compiled class and in its text. It is started where src lies,
 * with the compiled class in the first place of the class path.
 */
public final class LanguageTest {
    // Rule 4, and what the compiler itself puts in for an enum.
    private static final Set<String> LIBRARY = Set.of(
        "java/lang/String.length", "java/lang/String.charAt", "java/lang/String.isEmpty", "java/lang/String.equals",
        "java/lang/String.indexOf", "java/lang/String.substring", "java/lang/String.toCharArray",
        "java/lang/Integer.bitCount", "java/lang/Math.max", "java/lang/Math.min", "java/lang/Math.abs",
        "java/lang/Math.floorMod", "java/lang/Math.floorDiv", "java/lang/System.arraycopy", "java/util/Arrays.fill",
        "java/util/Arrays.copyOf", "java/util/Arrays.copyOfRange", "java/lang/Object.\"<init>\"",
        "java/lang/Enum.\"<init>\"", "java/lang/Enum.valueOf", "java/util/NoSuchElementException.\"<init>\"");

    private static final Pattern LIBRARY_CALL = Pattern.compile("// (?:Interface)?Method (java[^:]*):");
    private static final Pattern HEAD =
        Pattern.compile("( +)(?:[\\w\\[\\]]+ )+\\w+\\(([^()]*)\\)(?: throws \\w+)? \\{");

    private static int wrong = 0;

    private static void due(int rule, String what, boolean holds) {
        if (!holds) {
            wrong++;
            System.out.println("rule " + rule + " of LANGUAGE.md: " + what);
        }
    }

    private static List<Class<?>> classes() {
        List<Class<?>> all = new ArrayList<>();
        all.add(SmokeWeds.class);
        for (int i = 0; i < all.size(); i++) {
            all.addAll(List.of(all.get(i).getDeclaredClasses()));
        }
        return all;
    }

    private static void classesInside() {
        due(11, "more than twelve classes", classes().size() <= 12);
        for (Class<?> c : classes()) {
            int how = c.getModifiers();
            boolean inside = c != SmokeWeds.class;
            due(1, c + " is seen from outside", !inside || !Modifier.isPublic(how) && !Modifier.isProtected(how));
            due(2, c + " is not static", !inside || Modifier.isStatic(how));
            int fields = 0;
            for (Field f : c.getDeclaredFields()) {
                boolean isStatic = Modifier.isStatic(f.getModifiers());
                due(5, f + " is static and not final", !isStatic || Modifier.isFinal(f.getModifiers()));
                fields += isStatic ? 0 : 1;
            }
            due(11, c + " has more than twenty fields", fields <= 20);
            for (Method m : c.getDeclaredMethods()) {
                due(11, m + " takes more than seven", m.getParameterCount() <= 7);
            }
            for (Constructor<?> made : c.getDeclaredConstructors()) {
                due(11, made + " takes more than seven", made.getParameterCount() <= 7);
            }
        }
    }

    private static void compiled() {
        ToolProvider javap = ToolProvider.findFirst("javap").orElseThrow();
        File place = new File(System.getProperty("java.class.path").split(File.pathSeparator)[0]);
        int read = 0;
        for (Class<?> c : classes()) {
            StringWriter text = new StringWriter();
            javap.run(new PrintWriter(text), new PrintWriter(text), "-c", "-p",
                new File(place, c.getName() + ".class").getPath());
            Matcher call = LIBRARY_CALL.matcher(text.toString());
            while (call.find()) {
                read++;
                due(4, c + " calls " + call.group(1), LIBRARY.contains(call.group(1)));
            }
            due(2, c + " has a lambda or joins texts by +", !text.toString().contains("invokedynamic"));
            due(6, c + " catches", !text.toString().contains("Exception table"));
        }
        due(4, "nothing was read", read > 0);
    }

    private static void text() throws Exception {
        List<String> lines = Files.readAllLines(Path.of("src/main/java/SmokeWeds.java"));
        int methods = 0;
        for (int i = 0; i < lines.size(); i++) {
            String line = lines.get(i);
            for (int k = 0; k < line.length(); k++) {
                due(4, "line " + (i + 1) + " has another sign", line.charAt(k) < 127);
            }
            due(6, "line " + (i + 1) + " asserts or locks", !line.matches(" *(assert|synchronized|finally)\\b.*"));
            Matcher head = HEAD.matcher(line);
            if (head.matches() && !line.trim().matches("(else )?(if|for|while|switch|return)\\b.*")) {
                methods++;
                int end = i;
                while (end < lines.size() && !lines.get(end).equals(head.group(1) + "}")) {
                    end++;
                }
                due(11, line.trim() + " .. is longer than sixty lines", end - i < 60);
            }
        }
        due(11, "no method was found", methods > 50);
    }

    public static void main(String[] args) throws Exception {
        classesInside();
        compiled();
        text();
        System.out.println(wrong == 0 ? "the class keeps to the language" : wrong + " things are outside the language");
        if (wrong != 0) {
            System.exit(1);
        }
    }
}
