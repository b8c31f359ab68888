import java.io.File;
import java.net.URL;
import java.net.URLClassLoader;
import java.nio.file.Files;
import java.nio.file.Path;
import java.util.List;
import java.util.regex.Matcher;
import java.util.regex.Pattern;
import javax.tools.ToolProvider;

/**
 * Runs the blocks of Java in README.md as one program: what a line shows behind its // is what it must answer. It is
 * started where README.md lies.
 */
public final class ReadmeTest {
    // The calls of the face, each of which the example shows at least once.
    private static final String[] CALLS = {"feed", "street", "house", "light", "shut", "wind", "plume", "smoke", "meets",
        "hours", "pair", "soot", "only", "feast", "free", "sight", "clear", "fits", "share", "days", "mark", "count"};

    private static final Pattern SHOWN =
        Pattern.compile("(?:int (\\w+) = )?(.+); +// (-?\\d+|true|false|NoSuchElementException)(?:: .*)?");

    private static int wrong = 0;
    private static int shown = 0;

    /** Called by the example: what a line answered and what README.md shows. */
    public static void due(int line, String call, String got, String want) {
        shown++;
        if (!got.equals(want)) {
            wrong++;
            System.out.println("README.md line " + line + ": " + call + " answers " + got + ", not " + want);
        }
    }

    private static void bad(int line, String why) {
        wrong++;
        System.out.println("README.md line " + line + ": " + why);
    }

    private static String checked(int line, String text) {
        Matcher m = SHOWN.matcher(text);
        if (!m.matches()) {
            if (!text.isBlank() && !text.equals("SmokeWeds x = new SmokeWeds();")) {
                bad(line, "shows no answer: " + text);
            }
            return text + "\n";
        }
        String call = "\"" + m.group(2).replace("\"", "'") + "\"";
        String head = "ReadmeTest.due(" + line + ", " + call + ", ";
        String tail = ", \"" + m.group(3) + "\");\n";
        if (m.group(3).equals("NoSuchElementException")) {
            return "try { " + head + "\"\" + " + m.group(2) + tail
                + "} catch (java.util.NoSuchElementException e) { " + head + "\"NoSuchElementException\"" + tail + "}\n";
        }
        if (m.group(1) != null) {
            return "int " + m.group(1) + " = " + m.group(2) + ";\n" + head + "\"\" + " + m.group(1) + tail;
        }
        return head + "\"\" + (" + m.group(2) + ")" + tail;
    }

    /** A block that begins with static is a method as it stands; the lines of all others follow one another. */
    private static String program(List<String> lines) {
        StringBuilder methods = new StringBuilder();
        StringBuilder body = new StringBuilder();
        boolean inBlock = false;
        boolean inMethod = false;
        for (int i = 0; i < lines.size(); i++) {
            String text = lines.get(i);
            if (text.startsWith("```")) {
                inBlock = text.equals("```java");
                inMethod = inBlock && i + 1 < lines.size() && lines.get(i + 1).startsWith("static ");
            } else if (inMethod) {
                methods.append(text).append('\n');
            } else if (inBlock) {
                body.append(checked(i + 1, text));
            }
        }
        return "public final class ReadmeExample {\n" + methods + "public static void run() {\n" + body + "}\n}\n";
    }

    private static void runExample(String source) throws Exception {
        Path place = Files.createTempDirectory("readme");
        Path file = place.resolve("ReadmeExample.java");
        Files.writeString(file, source);
        String path = System.getProperty("java.class.path");
        int code = ToolProvider.getSystemJavaCompiler().run(null, null, null, "-cp", path, "-d", place.toString(),
            file.toString());
        if (code != 0) {
            wrong++;
            System.out.println("the example of README.md does not compile");
        } else {
            try (URLClassLoader loader = new URLClassLoader(new URL[] {place.toUri().toURL()})) {
                loader.loadClass("ReadmeExample").getMethod("run").invoke(null);
            }
        }
        for (File made : place.toFile().listFiles()) {
            made.delete();
        }
        place.toFile().delete();
    }

    public static void main(String[] args) throws Exception {
        String source = program(Files.readAllLines(Path.of("README.md")));
        for (String call : CALLS) {
            if (!source.contains("x." + call + "(")) {
                bad(1, "no example of " + call);
            }
        }
        runExample(source);
        System.out.println(wrong == 0 ? shown + " lines of README.md are so" : "README.md is not so");
        if (wrong != 0) {
            System.exit(1);
        }
    }
}
