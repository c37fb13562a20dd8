import java.io.IOException;
import java.lang.reflect.Constructor;
import java.lang.reflect.Field;
import java.lang.reflect.Method;
import java.lang.reflect.Modifier;
import java.nio.file.Files;
import java.nio.file.Path;
import java.util.ArrayList;
import java.util.HashSet;
import java.util.List;
import java.util.Set;
import java.util.TreeSet;
import java.util.regex.Matcher;
import java.util.regex.Pattern;

/** The public face as the document writes it, and what LANGUAGE.md rules out and a look at the source can find. */
public final class FaceTest {
    private static final Path DOCUMENT = Path.of("../shared/DOC.md");
    private static final Path SOURCE = Path.of("src/main/java/CableLanding.java");
    private static final String[] RULED_OUT = {"\\bimport\\b", "->", "::", "Exact\\(", "\\bcatch\\b", "\\bfinally\\b",
        "\\bsynchronized\\b", "\\bassert\\b", "static \\{", "\\bSystem\\.", "\\bprotected\\b", "Exception e\\b", "\" \\+",
        "\\+ \"", "\\bObject\\b", "\\blong\\[", "\\bdouble\\b", "\\bvar\\b"};

    public static void main(String[] args) throws IOException {
        face();
        nestedClasses();
        source();
        Check.end();
    }

    private static void face() throws IOException {
        Set<String> due = new TreeSet<>();
        Matcher lines = Pattern.compile("(?m)^    (public [^;{]*);$").matcher(Files.readString(DOCUMENT));
        while (lines.find()) {
            due.add(lines.group(1));
        }
        Check.same("members in the document", due.size(), 30);
        String source = Files.readString(SOURCE);
        for (String member : due) {
            boolean ends = source.contains("\n    " + member + " {") || source.contains("\n    " + member + ";");
            Check.isTrue("it is written as in the document: " + member, ends);
        }
        Class<?> tested = CableLanding.class;
        Check.same("modifiers of the class", tested.getModifiers(), Modifier.PUBLIC | Modifier.FINAL);
        Set<String> methods = new HashSet<>();
        int open = 0;
        for (Method method : tested.getDeclaredMethods()) {
            if (Modifier.isPublic(method.getModifiers())) {
                open++;
                methods.add(method.getName());
            }
        }
        Check.same("public methods", open, 28);
        for (Method method : tested.getDeclaredMethods()) {
            if (!Modifier.isPublic(method.getModifiers())) {
                Check.isTrue(method + " is private", Modifier.isPrivate(method.getModifiers()));
                Check.isTrue(method + " has a name of its own", !methods.contains(method.getName()));
            }
        }
        for (Field field : tested.getDeclaredFields()) {
            boolean isConstant = field.getName().equals("NONE");
            Check.isTrue(field + " is private", isConstant || Modifier.isPrivate(field.getModifiers()));
        }
        for (Constructor<?> constructor : tested.getDeclaredConstructors()) {
            Check.same("arguments of the constructor", constructor.getParameterCount(), 0);
        }
    }

    private static void nestedClasses() {
        List<Class<?>> classes = new ArrayList<>(List.of(CableLanding.class.getDeclaredClasses()));
        Check.isTrue("some twelve classes", classes.size() < 12);
        for (Class<?> nested : classes) {
            int modifiers = nested.getModifiers();
            Check.isTrue(nested + " is static", Modifier.isStatic(modifiers));
            Check.isTrue(nested + " is not public", !Modifier.isPublic(modifiers) && !Modifier.isProtected(modifiers));
        }
        classes.add(CableLanding.class);
        for (Class<?> each : classes) {
            int fields = 0;
            for (Field field : each.getDeclaredFields()) {
                boolean isStatic = Modifier.isStatic(field.getModifiers());
                fields += isStatic ? 0 : 1;
                Check.isTrue(field + " is final if static", !isStatic || Modifier.isFinal(field.getModifiers()));
            }
            Check.isTrue(each + " has some twenty fields", fields <= 20);
            for (Method method : each.getDeclaredMethods()) {
                Check.isTrue(method + " has at most seven parameters", method.getParameterCount() <= 7);
            }
        }
    }

    private static void source() throws IOException {
        String source = Files.readString(SOURCE).replaceAll("(?s)/\\*.*?\\*/", "").replaceAll("//.*", "");
        for (String pattern : RULED_OUT) {
            Check.isTrue("not in the source: " + pattern, !Pattern.compile(pattern).matcher(source).find());
        }
        Check.isTrue("no package line", !source.startsWith("package"));
        for (char sign : Files.readString(SOURCE).toCharArray()) {
            if (sign > 126) {
                Check.same("a sign of the source", sign, 126);
            }
        }
    }
}
