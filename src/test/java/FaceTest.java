import java.io.IOException;
import java.lang.reflect.Constructor;
import java.lang.reflect.Field;
import java.lang.reflect.Method;
import java.lang.reflect.Modifier;
import java.nio.file.Files;
import java.nio.file.Path;
import java.util.HashSet;
import java.util.Set;
import java.util.TreeSet;
import java.util.regex.Matcher;
import java.util.regex.Pattern;

/** The public face as the document writes it; the other rules of LANGUAGE.md are looked at by LanguageTest. */
public final class FaceTest {
    private static final Path DOCUMENT = Path.of("../shared/DOC.md");
    private static final Path SOURCE = Path.of("src/main/java/CableLanding.java");

    public static void main(String[] args) throws IOException {
        face();
        Check.end();
    }

    private static void face() throws IOException {
        Set<String> due = new TreeSet<>();
        Matcher lines = Pattern.compile("(?m)^    (public [^;{]*);$").matcher(Files.readString(DOCUMENT));
        while (lines.find()) {
            due.add(lines.group(1));
        }
        Check.same("members in the document", due.size(), 30);
        String source = Files.readString(SOURCE);
        for (String member : due) {
            boolean ends = source.contains("\n    " + member + " {") || source.contains("\n    " + member + ";");
            Check.isTrue("it is written as in the document: " + member, ends);
        }
        Class<?> tested = CableLanding.class;
        Check.same("modifiers of the class", tested.getModifiers(), Modifier.PUBLIC | Modifier.FINAL);
        Set<String> methods = new HashSet<>();
        int open = 0;
        for (Method method : tested.getDeclaredMethods()) {
            if (Modifier.isPublic(method.getModifiers())) {
                open++;
                methods.add(method.getName());
            }
        }
        Check.same("public methods", open, 28);
        for (Method method : tested.getDeclaredMethods()) {
            if (!Modifier.isPublic(method.getModifiers())) {
                Check.isTrue(method + " is private", Modifier.isPrivate(method.getModifiers()));
                Check.isTrue(method + " has a name of its own", !methods.contains(method.getName()));
            }
        }
        for (Field field : tested.getDeclaredFields()) {
            boolean isConstant = field.getName().equals("NONE");
            Check.isTrue(field + " is private", isConstant || Modifier.isPrivate(field.getModifiers()));
        }
        for (Constructor<?> constructor : tested.getDeclaredConstructors()) {
            Check.same("arguments of the constructor", constructor.getParameterCount(), 0);
        }
    }
}
