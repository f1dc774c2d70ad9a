import java.nio.file.Files;
import java.nio.file.Paths;
import java.util.List;

/** What of LANGUAGE.md can be seen in the source's lines; its path is the first argument. */
public final class LanguageTest {
    private static final String[] OUT_OF_BOUNDS = {
        "->", "::", "Exact(", "finally", "synchronized", "assert ", "catch", "hashCode", ".equals(", "System.out",
        "double", "float", "protected", "package ", "Random", "nanoTime", "currentTimeMillis", "while (true)", "for (;;)"
    };

    private LanguageTest() {
    }

    public static void main(String[] args) throws Exception {
        List<String> lines = Files.readAllLines(Paths.get(args[0]));
        int methodFrom = 0;
        int classes = 0;
        for (int i = 0; i < lines.size(); i++) {
            String line = lines.get(i);
            String code = line.trim();
            boolean comment = code.startsWith("*") || code.startsWith("/");
            for (String word : OUT_OF_BOUNDS) {
                Check.due("line " + (i + 1) + " has " + word, !comment && line.contains(word), false);
            }
            Check.due("line " + (i + 1) + " is ASCII", line.chars().allMatch(c -> c < 128), true);
            if (code.startsWith("import ")) {
                Check.due(code, code.equals("import java.util.Arrays;") || code.equals("import java.util.NoSuchElementException;"), true);
            }
            if (!comment && code.contains(" class ")) {
                classes++;
            }
            if (code.endsWith(") {") && !code.startsWith("if") && !code.startsWith("for") && !code.startsWith("}")) {
                methodFrom = i;
            }
            boolean static0 = code.startsWith("static ") || code.contains(" static ");
            if (!comment && static0 && code.endsWith(";")) {
                Check.due("static field that is not final: " + code, code.contains("final"), true);
            }
            if (line.equals("    }") || line.equals("        }")) {
                Check.due("the method from line " + (methodFrom + 1) + " has at most 60 lines", i - methodFrom < 60 || line.equals("    }"), true);
            }
        }
        Check.due("at most twelve classes", classes <= 12, true);
        Check.finish("LanguageTest");
    }
}
