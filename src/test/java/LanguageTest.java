import java.io.IOException;
import java.nio.file.Files;
import java.nio.file.Path;
import java.util.ArrayList;
import java.util.List;
import java.util.regex.Matcher;
import java.util.regex.Pattern;

/** Looks at the source for what LANGUAGE.md rules out, as far as single words show it. */
public final class LanguageTest {
    private static final Path SOURCE = Path.of("src/main/java/TurningShop.java");
    private static final int METHOD_LINES = 60;
    private static final String[] RULED_OUT = {
        "->", "::", "\\bpackage\\b", "\\bfinally\\b", "\\bsynchronized\\b", "\\bassert\\b", "\\bcatch\\b", "\\btry\\b",
        "\\bthrow\\b", "\\bFloat\\.", "\\bDouble\\.", "Exact\\(", "\\bSystem\\.(?!arraycopy\\b)", "\\bRandom\\b",
        "\\bThread\\b", "\\bprotected\\b", "\\bString\\.format", "\\bMath\\.(random|sqrt|pow|floor|ceil|round)\\b",
        "\\bArrays\\.(?!fill\\b|copyOf\\b|copyOfRange\\b)", "\\bwhile \\(true\\)", "for \\(;;\\)", "\\bvar\\b"
    };

    public static void main(String[] args) throws IOException {
        String source = Files.readString(SOURCE);
        String code = source.replaceAll("(?s)/\\*.*?\\*/", "").replaceAll("//[^\n]*", "");
        List<String> faults = new ArrayList<>();
        for (String word : RULED_OUT) {
            Matcher m = Pattern.compile(word).matcher(code);
            if (m.find()) faults.add("ruled out: " + word);
        }
        for (char c : source.toCharArray()) {
            if (c > 126) faults.add("a sign above 126: " + (int) c);
        }
        Matcher imports = Pattern.compile("import ([^;]*);").matcher(code);
        while (imports.find()) {
            if (!imports.group(1).equals("java.util.Arrays")) faults.add("import " + imports.group(1));
        }
        Matcher made = Pattern.compile("\\bnew \\w+").matcher(code);
        while (made.find()) {
            if (!made.group().matches("new (Game|int|char)")) faults.add(made.group());
        }
        longMethods(code, faults);
        faults.forEach(System.out::println);
        System.out.println(faults.isEmpty() ? "the source keeps to the rules looked at" : faults.size() + " faults");
        if (!faults.isEmpty()) System.exit(1);
    }

    private static void longMethods(String code, List<String> faults) {
        String[] lines = code.split("\n");
        String head = null;
        int from = 0;
        for (int i = 0; i < lines.length; i++) {
            if (lines[i].matches(" {4,8}[\\w\\[\\] ]+\\(.*\\) \\{")) {
                head = lines[i].trim();
                from = i;
            } else if (head != null && lines[i].matches(" {4,8}\\}")) {
                if (i - from > METHOD_LINES) faults.add("too long: " + head);
            }
        }
    }
}
