import java.io.IOException;
import java.nio.file.Files;
import java.nio.file.Path;
import java.util.List;
import java.util.regex.Matcher;
import java.util.regex.Pattern;

/**
 * Writes the examples of README.md as a test, ReadmeExamples, to be compiled beside the others: made from the page
 * itself, they can't differ from it.
 */
final class ReadmeWriter {
    private static final Pattern TOLD = Pattern.compile(
            "(?:int (?<name>\\w+) = )?(?<call>.+);\\s*// (?:(?<answer>[-\\d.]+|true|false)|throws (?<thrown>\\w+)): .+");
    private static final Pattern QUIET = Pattern.compile("TentCamp camp = new TentCamp\\(\\);");

    private final StringBuilder test = new StringBuilder();
    private int told;

    public static void main(String[] args) throws IOException {
        ReadmeWriter writer = new ReadmeWriter();
        writer.write(Files.readAllLines(Path.of(args[0])));
        if (writer.told == 0) {
            System.err.println(args[0] + " shows no example");
            System.exit(1);
        }
        System.out.print(writer.test);
    }

    private void write(List<String> page) {
        test.append("final class ReadmeExamples {\n");
        test.append("    public static void main(String[] args) {\n");
        test.append("        Check check = new Check(\"ReadmeExamples\");\n");
        boolean isExample = false;
        for (String line : page) {
            if (line.startsWith("```")) {
                isExample = line.equals("```java");
            } else if (isExample) {
                writeLine(line);
            }
        }
        test.append("        check.end();\n    }\n}\n");
    }

    private void writeLine(String line) {
        Matcher matcher = TOLD.matcher(line);
        if (!matcher.matches()) {
            writeQuiet(line);
            return;
        }
        told++;
        String call = matcher.group("call");
        if (matcher.group("thrown") != null) {
            writeRefused(call, matcher.group("thrown"));
            return;
        }
        String name = matcher.group("name");
        if (name != null) {
            test.append("        int ").append(name).append(" = ").append(call).append(";\n");
        }
        test.append("        check.due(\"").append(call).append("\", ").append(name == null ? call : name);
        test.append(", ").append(literal(matcher.group("answer"))).append(");\n");
    }

    /** A line that tells nothing could pass unseen, so that only the one that makes the camp may do so. */
    private void writeQuiet(String line) {
        if (!QUIET.matcher(line).matches()) {
            System.err.println("this example does not tell its answer: " + line);
            System.exit(1);
        }
        test.append("        ").append(line).append('\n');
    }

    private void writeRefused(String call, String thrown) {
        test.append("        check.refused(\"").append(call).append("\", camp, ").append(thrown);
        test.append(".class, () -> ").append(call).append(");\n");
    }

    private static String literal(String answer) {
        return answer.matches("-?\\d+") ? answer + "L" : answer;
    }
}
