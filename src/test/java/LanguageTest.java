import java.io.IOException;
import java.nio.file.Files;
import java.nio.file.Path;
import java.util.regex.Matcher;
import java.util.regex.Pattern;

/** What ../shared/LANGUAGE.md rules out does not stand in the program; run from the project's folder. */
public final class LanguageTest {
    private static final String[] RULED_OUT = {
        "\\bthrows?\\b", "\\btry\\b", "\\bcatch\\b", "\\bfinally\\b", "\\bsynchronized\\b", "\\bassert\\b", "\\bprotected\\b", "\\bpackage\\b",
        "->", "::", "Exact\\b", "\\bObject\\b", "\\bLong\\.MAX", "\\bInteger\\.M", "\\bSystem\\.(?!arraycopy)", "\\bstatic\\s*\\{",
        "\\bMath\\.(?!abs|max|min|floorMod)", "\\bArrays\\.(?!fill|copyOf)", "\\bfloat\\b", "\\bdouble\\b", "\\bequals\\b", "\\bhashCode\\b", "\\btoString\\b"};

    public static void main(String[] args) throws IOException {
        String source = Files.readString(Path.of("src/main/java/SplitFares.java"));
        String code = source.replaceAll("(?s)/\\*.*?\\*/", "").replaceAll("//[^\n]*", "").replaceAll("\"[^\"\n]*\"", "\"\"");
        int wrong = 0;
        for (String out : RULED_OUT) {
            Matcher m = Pattern.compile(out).matcher(code);
            if (m.find()) {
                wrong++;
                System.out.println("LanguageTest: " + m.group() + " stands in the program");
            }
        }
        Matcher imports = Pattern.compile("(?m)^import (.*);$").matcher(code);
        while (imports.find()) {
            if (!imports.group(1).equals("java.util.Arrays")) {
                wrong++;
                System.out.println("LanguageTest: import " + imports.group(1));
            }
        }
        for (char c : source.toCharArray()) {
            if (c > 127) {
                wrong++;
                System.out.println("LanguageTest: a sign beyond 127: " + (int) c);
            }
        }
        wrong += longMethods(code);
        System.out.println("LanguageTest: " + wrong + " wrong");
        if (wrong != 0) {
            System.exit(1);
        }
    }

    /** Methods begin and end by a row's indent: four in the class, eight in a class inside it. */
    private static int longMethods(String code) {
        int wrong = 0;
        Matcher m = Pattern.compile("(?m)^( {4}| {8})(?! |\\})[^;=\n]*\\(.*\\) \\{\n(?s:.*?)\n\\1\\}").matcher(code);
        int found = 0;
        while (m.find()) {
            found++;
            if (m.group().lines().count() > 60) {
                wrong++;
                System.out.println("LanguageTest: a long method: " + m.group().lines().findFirst().orElse(""));
            }
        }
        if (found < 100) {
            wrong++;
            System.out.println("LanguageTest: only " + found + " methods found");
        }
        return wrong;
    }
}
