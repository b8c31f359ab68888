import java.lang.reflect.Constructor;
import java.lang.reflect.Field;
import java.lang.reflect.Method;
import java.lang.reflect.Modifier;
import java.util.Set;
import java.util.TreeSet;

/** The class shows the document's face and nothing else. */
public final class FaceTest {
    private static int wrong = 0;

    private static void due(String what, Object got, Object want) {
        if (!got.equals(want)) {
            wrong++;
            System.out.println(what + ": is " + got + ", due is " + want);
        }
    }

    private static String told(Method m) {
        StringBuilder text = new StringBuilder(m.getReturnType().getName()).append(' ').append(m.getName()).append('(');
        for (Class<?> type : m.getParameterTypes()) {
            text.append(type.getName()).append(' ');
        }
        return text.toString().trim() + ")";
    }

    private static void methods() {
        Set<String> want = new TreeSet<>(Set.of(
            "int feed(long long long)", "int street()", "int house(int int)", "boolean light(int boolean)",
            "boolean shut(int boolean)", "int wind(int)", "int plume(int)", "int smoke(int int)", "int meets(int)",
            "int hours(int)", "int pair(int int int)", "int soot(int int int)", "int only(int int)",
            "int feast(int int)", "int free(int int)", "int sight(int int boolean)", "boolean clear()", "int fits()",
            "int share(int int int int)", "int days(int int int int)", "boolean mark(int boolean)", "int count(int)"));
        Set<String> got = new TreeSet<>();
        Set<String> names = new TreeSet<>();
        for (Method m : SmokeWeds.class.getDeclaredMethods()) {
            if (!Modifier.isPrivate(m.getModifiers())) {
                got.add(told(m));
                names.add(m.getName());
                due(m.getName() + " is public", Modifier.isPublic(m.getModifiers()), true);
                due(m.getName() + " is static", Modifier.isStatic(m.getModifiers()), false);
            }
        }
        due("methods", got, want);
        for (Method m : SmokeWeds.class.getDeclaredMethods()) {
            if (Modifier.isPrivate(m.getModifiers())) {
                due(m.getName() + " bears the name of a public one", names.contains(m.getName()), false);
            }
        }
    }

    private static void fields() {
        for (Field f : SmokeWeds.class.getDeclaredFields()) {
            boolean isPrivate = Modifier.isPrivate(f.getModifiers());
            due(f.getName() + " is private or NONE", isPrivate || f.getName().equals("NONE"), true);
            if (Modifier.isStatic(f.getModifiers())) {
                due(f.getName() + " is final", Modifier.isFinal(f.getModifiers()), true);
            }
        }
    }

    public static void main(String[] args) throws Exception {
        due("public final", SmokeWeds.class.getModifiers(), Modifier.PUBLIC | Modifier.FINAL);
        Constructor<?>[] all = SmokeWeds.class.getDeclaredConstructors();
        due("constructors", all.length, 1);
        due("its parameters", all[0].getParameterCount(), 0);
        due("it is public", Modifier.isPublic(all[0].getModifiers()), true);
        methods();
        fields();
        Class<?>[] thrown = SmokeWeds.class.getMethod("soot", int.class, int.class, int.class).getExceptionTypes();
        due("soot throws", thrown.length == 1 && thrown[0] == java.util.NoSuchElementException.class, true);
        due("NONE", SmokeWeds.class.getField("NONE").getInt(null), -1);
        System.out.println(wrong == 0 ? "the face is as told" : wrong + " parts of the face are not as told");
        if (wrong != 0) {
            System.exit(1);
        }
    }
}
