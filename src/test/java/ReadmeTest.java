import java.net.URL;
import java.net.URLClassLoader;
import java.nio.file.Files;
import java.nio.file.Path;
import java.util.regex.Matcher;
import java.util.regex.Pattern;

/** README.md's code does what its lines say: it is compiled, each line with an answer behind it is asked. */
public final class ReadmeTest {
    private static final Pattern BLOCK = Pattern.compile("```java\n(.*?)```", Pattern.DOTALL);
    private static final Pattern ANSWER =
            Pattern.compile("(int|long|boolean) (\\w+) = table\\.(.*); +// (-?\\d+|true|false)(:.*)?");

    private ReadmeTest() {
    }

    public static void main(String[] args) throws Exception {
        String readme = Files.readString(Path.of("README.md"));
        run(program(readme));
        everyCallIsNamed(readme);
        Check.finish("ReadmeTest");
    }

    private static String program(String readme) {
        StringBuilder methods = new StringBuilder();
        StringBuilder lines = new StringBuilder();
        int answers = 0;
        Matcher block = BLOCK.matcher(readme);
        while (block.find()) {
            String code = block.group(1);
            if (code.startsWith("static ")) {
                methods.append(code);
                continue;
            }
            for (String line : code.split("\n")) {
                Matcher answer = ANSWER.matcher(line);
                lines.append(line).append('\n');
                if (answer.matches()) {
                    answers++;
                    lines.append("same(\"").append(answer.group(3)).append("\", String.valueOf(")
                            .append(answer.group(2)).append("), \"").append(answer.group(4)).append("\");\n");
                }
            }
        }
        Check.due("README.md's lines with answers are found", answers > 20, true);
        return "public class ReadmeCode {\nstatic int wrong = 0;\n"
                + "static void same(String call, String got, String want) { if (!got.equals(want)) { wrong++; "
                + "System.out.println(\"README.md: \" + call + \" answered \" + got + \", due is \" + want); } }\n"
                + methods + "public static int run() {\n" + lines + "return wrong;\n}\n}\n";
    }

    private static void run(String program) throws Exception {
        Path room = Files.createTempDirectory("readme");
        Path source = room.resolve("ReadmeCode.java");
        Files.writeString(source, program);
        int refused = new ProcessBuilder("javac", "-proc:none", "-cp", System.getProperty("java.class.path"),
                "-d", room.toString(), source.toString()).inheritIO().start().waitFor();
        Check.due("README.md's code is compiled", refused, 0);
        if (refused == 0) {
            try (URLClassLoader loader = new URLClassLoader(new URL[] {room.toUri().toURL()})) {
                Object wrong = loader.loadClass("ReadmeCode").getMethod("run").invoke(null);
                Check.due("README.md's wrong answers", (Integer) wrong, 0);
            }
        }
        Files.deleteIfExists(room.resolve("ReadmeCode.class"));
        Files.deleteIfExists(source);
        Files.deleteIfExists(room);
    }

    private static void everyCallIsNamed(String readme) {
        for (java.lang.reflect.Method method : RockingTable.class.getMethods()) {
            if (method.getDeclaringClass() == RockingTable.class) {
                boolean named = Pattern.compile("\\| `[^`]*\\b" + method.getName() + "\\b[^`]*` \\|").matcher(readme).find();
                Check.due("README.md's table names " + method.getName(), named, true);
            }
        }
    }
}
