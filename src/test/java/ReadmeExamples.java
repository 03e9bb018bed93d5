import java.io.IOException;
import java.nio.file.Files;
import java.nio.file.Path;
import java.util.ArrayList;
import java.util.List;
import java.util.regex.Matcher;
import java.util.regex.Pattern;

/**
 * Writes ReadmeRun.java into the folder given: README.md's Java, as it stands there, with every call that
 * has a number behind it compared with that number. Run from the project's folder.
 */
public final class ReadmeExamples {
    private static final Pattern TOLD = Pattern.compile("(office\\.\\w+\\(.*\\));\\s+// (-?[0-9]+)\\b.*");
    private static final int FEWEST_TOLD = 70;

    public static void main(String[] args) throws IOException {
        StringBuilder members = new StringBuilder();
        StringBuilder calls = new StringBuilder();
        int told = 0;
        int blocks = 0;
        for (List<String> block : blocks()) {
            if (block.stream().anyMatch(row -> row.startsWith("static "))) {
                block.forEach(row -> members.append("    ").append(row).append('\n'));
                continue;
            }
            blocks++;
            members.append("    static void example").append(blocks).append("() {\n");
            for (String row : block) {
                Matcher m = TOLD.matcher(row);
                boolean tells = m.matches();
                told += tells ? 1 : 0;
                members.append("        ").append(tells ? due(m.group(1), m.group(2)) : row).append('\n');
            }
            members.append("    }\n\n");
            calls.append("        example").append(blocks).append("();\n");
        }
        if (told < FEWEST_TOLD) {
            System.out.println("ReadmeExamples: only " + told + " answers are told by README.md");
            System.exit(1);
        }
        Files.writeString(Path.of(args[0], "ReadmeRun.java"),
            "public final class ReadmeRun {\n    static final Due D = new Due(\"ReadmeRun\");\n\n" + members
            + "    public static void main(String[] args) {\n" + calls + "        D.end();\n    }\n}\n");
    }

    private static String due(String call, String number) {
        return "D.due(\"" + call.replace("\"", "\\\"") + "\", " + call + ", " + number + "L);";
    }

    private static List<List<String>> blocks() throws IOException {
        List<List<String>> blocks = new ArrayList<>();
        List<String> block = null;
        for (String row : Files.readAllLines(Path.of("README.md"))) {
            if (row.equals("```java")) {
                block = new ArrayList<>();
            } else if (row.equals("```") && block != null) {
                blocks.add(block);
                block = null;
            } else if (block != null) {
                block.add(row);
            }
        }
        return blocks;
    }
}
