import java.io.IOException;
import java.lang.reflect.Modifier;
import java.nio.file.Files;
import java.nio.file.Path;
import java.util.Arrays;
import java.util.Set;
import java.util.TreeSet;
import java.util.regex.MatchResult;
import java.util.regex.Pattern;
import java.util.stream.Collectors;
import java.util.stream.Stream;

/** README.md names every call, every error and every test, and no test that is not there; .ci/run runs its examples. */
public final class ReadmeTest {
    private static final Check check = new Check("ReadmeTest");

    public static void main(String[] args) throws IOException {
        String text = Files.readString(Path.of("README.md"));
        Set<String> quoted = found(text, "`(\\w+)`");
        for (String name : faceNames()) {
            check.due(name + " is named", quoted.contains(name) ? 1 : 0, 1);
        }
        Set<String> named = found(text, "`(\\w+Test)`");
        check.due("the tests that are named", named.toString(), testNames().toString());
        for (String path : found(text, "`((?:\\.\\./|src/)[\\w/.]*\\w)`")) {
            check.due(path + " is there", Files.exists(Path.of(path)) ? 1 : 0, 1);
        }
        check.end();
    }

    private static Set<String> found(String text, String pattern) {
        Stream<MatchResult> places = Pattern.compile(pattern).matcher(text).results();
        return places.map(place -> place.group(1)).collect(Collectors.toCollection(TreeSet::new));
    }

    /** The public methods and constants. */
    private static Set<String> faceNames() {
        Set<String> names = new TreeSet<>();
        Arrays.stream(BridgeWardens.class.getDeclaredMethods())
            .filter(method -> Modifier.isPublic(method.getModifiers())).forEach(method -> names.add(method.getName()));
        Arrays.stream(BridgeWardens.class.getDeclaredFields())
            .filter(field -> Modifier.isPublic(field.getModifiers())).forEach(field -> names.add(field.getName()));
        return names;
    }

    private static Set<String> testNames() throws IOException {
        try (Stream<Path> files = Files.list(Path.of("src/test/java"))) {
            return files.map(file -> file.getFileName().toString()).filter(name -> name.endsWith("Test.java"))
                .map(name -> name.replace(".java", "")).collect(Collectors.toCollection(TreeSet::new));
        }
    }
}
