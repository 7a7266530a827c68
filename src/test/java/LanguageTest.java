import java.lang.reflect.Constructor;
import java.lang.reflect.Field;
import java.lang.reflect.Method;
import java.lang.reflect.Modifier;
import java.nio.file.Files;
import java.nio.file.Path;
import java.util.ArrayList;
import java.util.Arrays;
import java.util.List;
import java.util.Set;
import java.util.TreeSet;
import java.util.regex.Matcher;
import java.util.regex.Pattern;

/** The rules of LANGUAGE.md that can be seen from the text of the program and from its compiled face. */
public final class LanguageTest {
    private static final Path SOURCE = Path.of("src/main/java/BridgeWardens.java");
    private static final Pattern FORBIDDEN = Pattern.compile("\\b(throw|throws|try|catch|finally|synchronized|assert|import"
        + "|package|volatile|native|Object|Thread|Random|System\\.(?!arraycopy\\b)\\w+|equals|hashCode|toString|var)\\b"
        + "|->|::|@|\\bnew\\s+\\w+\\s*\\([^)]*\\)\\s*\\{");
    private static final Set<String> FACE = new TreeSet<>(List.of("set 2", "bridge 3", "cart 2", "guess 3", "leave 1",
        "hint 2", "pass 1", "write 1", "ofBridge 2", "ofCart 2", "knows 3", "waits 2", "sign 1", "count 1", "next 1",
        "why 1", "overIn 1", "wins 4", "bestGuess 4", "route 3", "would 2", "put 1", "wipe 0", "fault 0", "carryOut 0",
        "undo 0", "save 1", "restore 1"));
    private static final Check check = new Check("LanguageTest");

    public static void main(String[] args) throws Exception {
        String text = Files.readString(SOURCE);
        check.due("signs beyond 127", text.chars().filter(sign -> sign > 127).count(), 0);
        words(bare(text));
        methodLengths(text);
        face();
        classesInside();
        check.end();
    }

    /** The program without its comments and without what stands in quotes. */
    private static String bare(String text) {
        return text.replaceAll("(?s)/\\*.*?\\*/", "").replaceAll("//[^\n]*", "").replaceAll("'[^'\n]+'", "0")
            .replaceAll("\"[^\"\n]*\"", "\"\"");
    }

    private static void words(String text) {
        Matcher forbidden = FORBIDDEN.matcher(text);
        while (forbidden.find()) {
            check.due("the word " + forbidden.group(), 1, 0);
        }
        Matcher made = Pattern.compile("\\bstatic\\b(?! (final )?class)[^;({]*[;={]").matcher(text);
        while (made.find()) {
            check.due("not final: " + made.group(), made.group().contains("static final") ? 1 : 0, 1);
        }
    }

    private static void methodLengths(String text) {
        int started = 0;
        String[] lines = text.split("\n");
        for (int i = 0; i < lines.length; i++) {
            if (lines[i].matches(" {4,8}\\S.*\\) \\{")) {
                started = i;
            }
            if (lines[i].matches(" {4,8}\\}")) {
                check.due("lines of " + lines[started].trim(), i - started > 60 && started > 0
                    && !lines[i].equals("    }") ? 1 : 0, 0);
            }
        }
    }

    private static void face() {
        Set<String> found = new TreeSet<>();
        for (Method method : BridgeWardens.class.getDeclaredMethods()) {
            if (Modifier.isPublic(method.getModifiers())) {
                found.add(method.getName() + " " + method.getParameterCount());
                check.due(method.getName() + " answers an int", method.getReturnType() == int.class ? 1 : 0, 1);
            } else {
                privateOne(method.getName(), method.getModifiers(), method.isSynthetic());
            }
        }
        check.due("the face", found.toString(), FACE.toString());
        for (Field field : BridgeWardens.class.getDeclaredFields()) {
            if (!Modifier.isPublic(field.getModifiers())) {
                check.due(field.getName() + " is private", Modifier.isPrivate(field.getModifiers()) ? 1 : 0, 1);
            }
        }
        Constructor<?>[] made = BridgeWardens.class.getDeclaredConstructors();
        check.due("constructors", made.length, 1);
        check.due("the constructor", Arrays.toString(made), "[public BridgeWardens()]");
    }

    private static void privateOne(String name, int modifiers, boolean synthetic) {
        boolean ofTheFace = FACE.stream().anyMatch(method -> method.startsWith(name + " "));
        check.due(name + " is private and not named as one of the face",
            synthetic || Modifier.isPrivate(modifiers) && !ofTheFace ? 1 : 0, 1);
    }

    private static void classesInside() {
        List<Class<?>> classes = new ArrayList<>(List.of(BridgeWardens.class.getDeclaredClasses()));
        check.due("at most twelve classes", classes.size() < 12 ? 1 : 0, 1);
        for (Class<?> inside : classes) {
            int modifiers = inside.getModifiers();
            check.due(inside.getName() + " is static", Modifier.isStatic(modifiers) ? 1 : 0, 1);
            check.due(inside.getName() + " is hidden", modifiers & (Modifier.PUBLIC | Modifier.PROTECTED), 0);
            for (Method method : inside.getDeclaredMethods()) {
                check.due(method.getName() + " has few parameters", method.getParameterCount() <= 7 ? 1 : 0, 1);
                boolean ofTheFace = FACE.stream().anyMatch(face -> face.startsWith(method.getName() + " "));
                check.due(method.getName() + " is not named as one of the face", ofTheFace ? 1 : 0, 0);
            }
            long fields = Arrays.stream(inside.getDeclaredFields())
                .filter(field -> !Modifier.isStatic(field.getModifiers())).count();
            check.due(inside.getName() + " has few fields", fields <= 20 ? 1 : 0, 1);
        }
    }
}
