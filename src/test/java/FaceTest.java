import java.io.IOException;
import java.lang.reflect.Constructor;
import java.lang.reflect.Field;
import java.lang.reflect.Method;
import java.lang.reflect.Modifier;
import java.nio.file.Files;
import java.nio.file.Path;
import java.util.ArrayList;
import java.util.List;
import java.util.Set;
import java.util.TreeSet;
import java.util.regex.Matcher;
import java.util.regex.Pattern;

/** The public face, as the document writes it, and the rules of the language that can be read off the class. */
public final class FaceTest {
    private static final Check CHECK = new Check("FaceTest");
    private static final Path DOCUMENT = Path.of("../shared/DOC.md");
    private static final Path SOURCE = Path.of("src/main/java/BookmarkManager.java");
    private static final Class<?> FACE = BookmarkManager.class;

    private FaceTest() {
    }

    public static void main(String[] args) throws IOException {
        String document = Files.readString(DOCUMENT);
        String face = document.substring(document.indexOf("```java"), document.indexOf("## Terms"));
        constants(face);
        methods(face);
        members();
        nestedClasses();
        String code = withoutComments(Files.readString(SOURCE));
        words(code);
        divisors(code);
        CHECK.end();
    }

    private static void constants(String face) {
        Matcher matcher = Pattern.compile("public static final int (\\w+) = (\\d+);").matcher(face);
        int found = 0;
        while (matcher.find()) {
            String name = matcher.group(1);
            CHECK.due(Integer.valueOf(matcher.group(2)), name, () -> constant(name));
            found++;
        }
        CHECK.compare(10, "the number of constants", found);
    }

    private static Object constant(String name) {
        try {
            Field field = FACE.getField(name);
            return Modifier.isFinal(field.getModifiers()) ? field.getInt(null) : "not final";
        } catch (ReflectiveOperationException missing) {
            return "missing";
        }
    }

    /** Each method of the document is there with its types and its exceptions, in their order. */
    private static void methods(String face) {
        Set<String> want = new TreeSet<>();
        Matcher matcher = Pattern.compile("public (\\w+) (\\w+)\\(([^)]*)\\)( throws [^;]*)?;").matcher(face);
        while (matcher.find()) {
            String types = matcher.group(3).replaceAll("(\\w+) \\w+", "$1").replace(" ", "");
            String thrown = matcher.group(4) == null ? "" : matcher.group(4).replace(" ", "");
            want.add(matcher.group(1) + " " + matcher.group(2) + "(" + types + ")" + thrown);
        }
        Set<String> got = new TreeSet<>();
        for (Method method : FACE.getDeclaredMethods()) {
            if (!Modifier.isPrivate(method.getModifiers())) {
                got.add(told(method));
            }
        }
        CHECK.compare(61, "the number of methods", want.size());
        CHECK.compare(want, "the methods that are not private", got);
    }

    private static String told(Method method) {
        List<String> types = new ArrayList<>();
        for (Class<?> type : method.getParameterTypes()) {
            types.add(type.getSimpleName());
        }
        List<String> thrown = new ArrayList<>();
        for (Class<?> type : method.getExceptionTypes()) {
            thrown.add(type.getSimpleName());
        }
        String told = method.getReturnType().getSimpleName() + " " + method.getName() + "(" + String.join(",", types) + ")";
        return thrown.isEmpty() ? told : told + "throws" + String.join(",", thrown);
    }

    private static void members() {
        CHECK.compare("public final", "the class", Modifier.toString(FACE.getModifiers()));
        Constructor<?>[] constructors = FACE.getDeclaredConstructors();
        CHECK.compare("[public BookmarkManager()]", "the constructors", List.of(constructors).toString());
        for (Field field : FACE.getDeclaredFields()) {
            int modifiers = field.getModifiers();
            boolean constant = Modifier.isStatic(modifiers) && Modifier.isFinal(modifiers);
            CHECK.compare(true, field + " is private or a constant", Modifier.isPrivate(modifiers) || constant);
            CHECK.compare(true, field + " is final if it is static", constant || !Modifier.isStatic(modifiers));
        }
    }

    private static void nestedClasses() {
        Set<String> publicNames = new TreeSet<>();
        for (Method method : FACE.getMethods()) {
            publicNames.add(method.getName());
        }
        CHECK.compare(true, "at most twelve classes", FACE.getDeclaredClasses().length < 12);
        List<Class<?>> all = new ArrayList<>(List.of(FACE.getDeclaredClasses()));
        all.add(FACE);
        for (Class<?> type : all) {
            for (Method method : type.getDeclaredMethods()) {
                boolean face = type == FACE && Modifier.isPublic(method.getModifiers());
                CHECK.compare(true, method + " has a name of its own", face || !publicNames.contains(method.getName()));
                CHECK.compare(true, method + " has at most seven parameters", method.getParameterCount() <= 7);
            }
        }
    }

    /** The code alone; its texts are emptied too. */
    private static String withoutComments(String source) {
        return source.replaceAll("(?s)/\\*.*?\\*/", "").replaceAll("//[^\n]*", "").replaceAll("\"[^\"\n]*\"", "\"\"");
    }

    /** Words and signs that the language leaves out, or that this program has no need of. */
    private static void words(String code) {
        String[] left = {"->", "::", "\\btry\\b", "\\bcatch\\b", "\\bfinally\\b", "\\bsynchronized\\b", "\\bassert\\b",
            "\\bvolatile\\b", "\\binstanceof\\b", "\\bstatic\\s*\\{", "\\bprotected\\b", "\\bpackage\\b", "\"\\s*\\+", "\\+\\s*\"",
            "\\bSystem\\.(?!arraycopy)", "\\bMath\\b", "\\bObject\\b", "\\bwhile\\b", "@", "\\bimport java\\.(?!util\\.NoSuchElementException;)"};
        for (String pattern : left) {
            CHECK.compare(false, "the source has " + pattern, Pattern.compile(pattern).matcher(code).find());
        }
        int method = 0;
        for (String line : code.split("\n")) {
            boolean outside = line.matches(" {4}(    )?(}|[^ ].*;)");
            method = outside ? 0 : method + 1;
            CHECK.compare(true, "a method is short at: " + line, method < 60);
        }
    }

    /** Rule 7: "an index is looked at before it is used, a divisor before it divides", in the method that divides. */
    private static void divisors(String code) {
        Matcher division = Pattern.compile("[/%]=?\\s*(?:\\(\\w+\\) )?([\\w.]+)").matcher(code);
        int found = 0;
        while (division.find()) {
            // A blank line stands ahead of every method, and none stands in it.
            String before = code.substring(code.lastIndexOf("\n\n", division.start()), division.start());
            Pattern look = Pattern.compile("(?<![\\w.])" + Pattern.quote(division.group(1)) + " (==|!=|<|>|<=|>=) ");
            CHECK.compare(true, division.group(1) + " is looked at before it divides", look.matcher(before).find());
            found++;
        }
        CHECK.compare(2, "the number of divisions", found);
    }
}
