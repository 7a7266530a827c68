import java.lang.reflect.Constructor;
import java.lang.reflect.Field;
import java.lang.reflect.Method;
import java.lang.reflect.Modifier;
import java.nio.file.Files;
import java.nio.file.Path;
import java.util.ArrayList;
import java.util.Arrays;
import java.util.List;
import java.util.Set;
import java.util.TreeSet;
import java.util.regex.Matcher;
import java.util.regex.Pattern;
import java.util.stream.Collectors;

/** The rules of LANGUAGE.md that can be seen from the text of the program and from its compiled face. */
public final class LanguageTest {
    private static final Path SOURCE = Path.of("src/main/java/BridgeWardens.java");
    private static final Pattern FORBIDDEN = Pattern.compile("\\b(throw|throws|try|catch|finally|synchronized|assert|import"
        + "|package|volatile|native|Object|Thread|Random|System\\.(?!arraycopy\\b)\\w+|equals|hashCode|toString|var)\\b"
        + "|->|::|@|\\bnew\\s+\\w+\\s*\\([^)]*\\)\\s*\\{");
    private static final Path DOCUMENT = Path.of("../shared/DOC.md");
    private static final Check check = new Check("LanguageTest");
    /** The face as the document tells it: methods with the types of what they are given, constants with their values. */
    private static final Set<String> face = new TreeSet<>();

    public static void main(String[] args) throws Exception {
        String text = Files.readString(SOURCE);
        readFace(Files.readString(DOCUMENT));
        check.due("signs beyond 127", text.chars().filter(sign -> sign > 127).count(), 0);
        words(bare(text));
        methodLengths(text);
        face();
        classesInside();
        check.end();
    }

    /** The program without its comments and without what stands in quotes. */
    private static String bare(String text) {
        return text.replaceAll("(?s)/\\*.*?\\*/", "").replaceAll("//[^\n]*", "").replaceAll("'[^'\n]+'", "0")
            .replaceAll("\"[^\"\n]*\"", "\"\"");
    }

    private static void words(String text) {
        Matcher forbidden = FORBIDDEN.matcher(text);
        while (forbidden.find()) {
            check.due("the word " + forbidden.group(), 1, 0);
        }
        Matcher made = Pattern.compile("\\bstatic\\b(?! (final )?class)[^;({]*[;={]").matcher(text);
        while (made.find()) {
            check.due("not final: " + made.group(), made.group().contains("static final") ? 1 : 0, 1);
        }
    }

    private static void methodLengths(String text) {
        int started = 0;
        String[] lines = text.split("\n");
        for (int i = 0; i < lines.length; i++) {
            if (lines[i].matches(" {4,8}\\S.*\\) \\{")) {
                started = i;
            }
            if (lines[i].matches(" {4,8}\\}")) {
                check.due("lines of " + lines[started].trim(), i - started > 60 && started > 0
                    && !lines[i].equals("    }") ? 1 : 0, 0);
            }
        }
    }

    private static void readFace(String document) {
        String told = document.substring(document.indexOf("```java"), document.indexOf("## Terms"));
        Matcher method = Pattern.compile("public int (\\w+)\\((.*)\\);").matcher(told);
        while (method.find()) {
            face.add("int " + method.group(1) + "(" + method.group(2).replaceAll(" \\w+(?=,|$)", "") + ")");
        }
        Matcher constant = Pattern.compile("([A-Z_]+ = -?\\d+)[,;]").matcher(told);
        while (constant.find()) {
            face.add(constant.group(1));
        }
        check.due("parts of the face", face.size(), 38);
    }

    private static void face() throws IllegalAccessException {
        Set<String> found = new TreeSet<>();
        for (Method method : BridgeWardens.class.getDeclaredMethods()) {
            int modifiers = method.getModifiers();
            if (Modifier.isPublic(modifiers)) {
                found.add(method.getReturnType() + " " + method.getName() + "(" + given(method) + ")");
                check.due(method.getName() + " is of the object", Modifier.isStatic(modifiers) ? 1 : 0, 0);
            } else if (!method.isSynthetic()) {
                check.due(method.getName() + " is private", Modifier.isPrivate(modifiers) ? 1 : 0, 1);
                notOfTheFace(method.getName());
            }
        }
        for (Field field : BridgeWardens.class.getDeclaredFields()) {
            if (Modifier.isPublic(field.getModifiers())) {
                check.due(field + "", Modifier.toString(field.getModifiers()), "public static final");
                found.add(field.getName() + " = " + field.getInt(null));
            } else {
                check.due(field.getName() + " is private", Modifier.isPrivate(field.getModifiers()) ? 1 : 0, 1);
            }
        }
        check.due("the face", found.toString(), face.toString());
        check.due("the class", Modifier.toString(BridgeWardens.class.getModifiers()), "public final");
        Constructor<?>[] made = BridgeWardens.class.getDeclaredConstructors();
        check.due("the constructors", Arrays.toString(made), "[public BridgeWardens()]");
    }

    private static String given(Method method) {
        return Arrays.stream(method.getParameterTypes()).map(Class::getName).collect(Collectors.joining(", "));
    }

    private static void notOfTheFace(String name) {
        boolean ofTheFace = face.stream().anyMatch(told -> told.startsWith("int " + name + "("));
        check.due(name + " is not named as one of the face", ofTheFace ? 1 : 0, 0);
    }

    private static void classesInside() {
        List<Class<?>> classes = new ArrayList<>(List.of(BridgeWardens.class.getDeclaredClasses()));
        check.due("at most twelve classes", classes.size() < 12 ? 1 : 0, 1);
        for (Class<?> inside : classes) {
            int modifiers = inside.getModifiers();
            check.due(inside.getName() + " is static", Modifier.isStatic(modifiers) ? 1 : 0, 1);
            check.due(inside.getName() + " is hidden", modifiers & (Modifier.PUBLIC | Modifier.PROTECTED), 0);
            for (Method method : inside.getDeclaredMethods()) {
                check.due(method.getName() + " has few parameters", method.getParameterCount() <= 7 ? 1 : 0, 1);
                notOfTheFace(method.getName());
            }
            long fields = Arrays.stream(inside.getDeclaredFields())
                .filter(field -> !Modifier.isStatic(field.getModifiers())).count();
            check.due(inside.getName() + " has few fields", fields <= 20 ? 1 : 0, 1);
        }
    }
}
