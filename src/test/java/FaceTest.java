import java.io.IOException;
import java.lang.reflect.Constructor;
import java.lang.reflect.Field;
import java.lang.reflect.Method;
import java.lang.reflect.Modifier;
import java.nio.file.Files;
import java.nio.file.Path;
import java.util.Arrays;
import java.util.List;
import java.util.Set;
import java.util.TreeSet;
import java.util.regex.Matcher;
import java.util.regex.Pattern;

/** The face is the document's, and the file keeps to those rules of LANGUAGE.md that can be looked at from outside. */
public final class FaceTest {
    private static final Check CHECK = new Check();
    private static final Path SOURCE = Path.of("src/main/java/WatchServer.java");
    private static final Path DOCUMENT = Path.of("../shared/DOC.md");

    public static void main(String[] args) throws IOException {
        face();
        members();
        words();
        CHECK.done();
    }

    private static void holds(String what, boolean so) {
        CHECK.due(what, so ? 1 : 0, 1);
    }

    /** Rule 1. */
    private static void face() throws IOException {
        Set<String> due = new TreeSet<>();
        Matcher line = Pattern.compile("(?m)^    public (\\w+) (\\w+)\\((.*)\\);$").matcher(Files.readString(DOCUMENT));
        while (line.find()) {
            due.add(line.group(1) + " " + line.group(2) + types(line.group(3)));
        }
        Set<String> got = new TreeSet<>();
        for (Method method : WatchServer.class.getDeclaredMethods()) {
            if (Modifier.isPublic(method.getModifiers())) {
                StringBuilder types = new StringBuilder();
                for (Class<?> type : method.getParameterTypes()) {
                    types.append(' ').append(type.getName());
                }
                got.add(method.getReturnType().getName() + " " + method.getName() + types);
            }
        }
        CHECK.due("methods of the document", due.size(), 29);
        holds("the methods are the document's: " + got, got.equals(due));
        holds("public and final", WatchServer.class.getModifiers() == (Modifier.PUBLIC | Modifier.FINAL));
        Constructor<?>[] constructors = WatchServer.class.getDeclaredConstructors();
        CHECK.due("constructors", constructors.length, 1);
        holds("public, without parameters", Modifier.isPublic(constructors[0].getModifiers())
            && constructors[0].getParameterCount() == 0);
    }

    private static String types(String parameters) {
        StringBuilder types = new StringBuilder();
        for (String parameter : parameters.split(", ")) {
            if (!parameter.isEmpty()) {
                types.append(' ').append(parameter.split(" ")[0]);
            }
        }
        return types.toString();
    }

    /** Rules 1, 2, 5 and 11. */
    private static void members() {
        Set<String> open = new TreeSet<>();
        for (Method method : WatchServer.class.getDeclaredMethods()) {
            if (Modifier.isPublic(method.getModifiers())) {
                open.add(method.getName());
            } else {
                holds(method.getName() + " is private", Modifier.isPrivate(method.getModifiers()));
            }
        }
        for (Field field : WatchServer.class.getDeclaredFields()) {
            holds(field.getName() + " is private", Modifier.isPrivate(field.getModifiers()));
        }
        List<Class<?>> inside = Arrays.asList(WatchServer.class.getDeclaredClasses());
        holds("some twelve classes", inside.size() < 12);
        for (Class<?> each : inside) {
            holds(each.getName() + " is static and not public", Modifier.isStatic(each.getModifiers())
                && !Modifier.isPublic(each.getModifiers()) && !Modifier.isProtected(each.getModifiers()));
            limits(each, open);
        }
        limits(WatchServer.class, open);
    }

    private static void limits(Class<?> each, Set<String> open) {
        int fields = 0;
        for (Field field : each.getDeclaredFields()) {
            boolean isStatic = Modifier.isStatic(field.getModifiers());
            fields += isStatic ? 0 : 1;
            holds(field + " is final if it is static", !isStatic || Modifier.isFinal(field.getModifiers()));
        }
        holds(each.getName() + " has some twenty fields", fields <= 20);
        for (Method method : each.getDeclaredMethods()) {
            boolean isFace = Modifier.isPublic(method.getModifiers());
            holds(method + " has at most seven parameters", isFace || method.getParameterCount() <= 7);
            holds(method + " bears no name of the face", isFace || !open.contains(method.getName()));
        }
        for (Constructor<?> constructor : each.getDeclaredConstructors()) {
            holds(constructor + " has at most seven parameters", constructor.getParameterCount() <= 7);
        }
    }

    /** Rules 2, 4 and 6. */
    private static void words() throws IOException {
        String code = Files.readString(SOURCE).replaceAll("(?s)/\\*.*?\\*/", "").replaceAll("//.*", "");
        String[] forbidden = {"\\bthrow\\b", "\\bthrows\\b", "\\btry\\b", "\\bcatch\\b", "\\bsynchronized\\b",
            "\\bassert\\b", "->", "::", "\\bpackage\\b", "\\bvar\\b", "Exact\\b", "\\bhashCode\\b", "\\btoString\\b",
            "\\bSystem\\b", "\\bThread\\b", "\\bRandom\\b", "\\bstatic \\{"};
        for (String word : forbidden) {
            holds("without " + word, !Pattern.compile(word).matcher(code).find());
        }
        Matcher imports = Pattern.compile("import ([^;]*);").matcher(code);
        while (imports.find()) {
            holds("import " + imports.group(1), imports.group(1).equals("java.util.ArrayList"));
        }
        for (char c : Files.readString(SOURCE).toCharArray()) {
            if (c > 127) {
                holds("plain characters", false);
            }
        }
    }
}
