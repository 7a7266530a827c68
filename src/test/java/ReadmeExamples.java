import java.nio.file.Files;
import java.nio.file.Path;
import java.util.regex.Matcher;
import java.util.regex.Pattern;

/** Prints a program that makes the calls of README.md's examples and compares what they answer with what it says. */
public final class ReadmeExamples {
    private static final Pattern BLOCK = Pattern.compile("(?s)\n```java\n(.*?\n)```\n");
    private static final Pattern CALL =
        Pattern.compile("(?:int (\\w+) = )?(wardens\\.\\w+\\([^;]*\\)); *// ([0-9]+|[A-Z_]+)(?::.*)?");

    public static void main(String[] args) throws Exception {
        StringBuilder program = new StringBuilder("public final class ReadmeRun {\n"
            + "    private static final int NO_SUCH = BridgeWardens.NO_SUCH, BAD_VALUE = BridgeWardens.BAD_VALUE,\n"
            + "        BAD_TEXT = BridgeWardens.BAD_TEXT, TOO_MANY = BridgeWardens.TOO_MANY,\n"
            + "        NOT_POSSIBLE = BridgeWardens.NOT_POSSIBLE, NONE = BridgeWardens.NONE;\n\n"
            + "    public static void main(String[] args) {\n"
            + "        Check check = new Check(\"ReadmeRun\");\n");
        Matcher block = BLOCK.matcher(Files.readString(Path.of("README.md")));
        while (block.find()) {
            for (String line : block.group(1).split("\n")) {
                program.append("        ").append(checked(line)).append('\n');
            }
        }
        if (program.indexOf("check.due(") < 0) {
            throw new IllegalStateException("README.md has no examples");
        }
        System.out.print(program.append("        check.end();\n    }\n}\n"));
    }

    /** A line of an example, with a check of its answer if it makes a call; a call without an answer is left as an error. */
    private static String checked(String line) {
        Matcher call = CALL.matcher(line);
        if (call.matches()) {
            String made = call.group(1) == null ? "" : "int " + call.group(1) + " = " + call.group(2) + "; ";
            String got = call.group(1) == null ? call.group(2) : call.group(1);
            return made + "check.due(\"" + call.group(2) + "\", " + got + ", " + call.group(3) + ");";
        }
        return line.contains("wardens.") || line.contains("//") ? "no answer is told: " + line : line;
    }
}
