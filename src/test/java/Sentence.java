import java.io.IOException;
import java.nio.file.Files;
import java.nio.file.Path;
import java.util.ArrayList;
import java.util.Arrays;
import java.util.List;
import java.util.regex.Matcher;
import java.util.regex.Pattern;

/**
 * What is asked is asked under a promise's number and a sentence of the document, and told with both if
 * the answer is not as due. At the end the sentences are looked up in the document, and those of the
 * document that no test names are told.
 */
final class Sentence {
    private static final int PROMISES = 40;
    /** Words of the terms that lead to others, or name things alone. */
    private static final String[] NO_BOUNDARY = {
        "A GARDEN is a TEXT: CLAUSES with ; between: ", ". Of these two ", ": of t: ", "are TEXTS: ", "FAULT: ", ". ACTS: ",
        "(Apart.) JUG on a leg at a TURNING: ", "The constants: "
    };
    private static final List<int[]> numbers = new ArrayList<>();
    private static final List<String> words = new ArrayList<>();
    private static int promise = 0;
    private static String sentence = "";

    private Sentence() {
    }

    /** The answers that follow are due by these words; promise 0: they belong to every promise. */
    static void of(int number, String quoted) {
        promise = number;
        sentence = quoted;
        numbers.add(new int[] {number});
        words.add(plain(quoted));
    }

    private static String about(String call) {
        return "promise " + promise + ", \"" + sentence + "\": " + call;
    }

    static void due(String call, long got, long want) {
        Check.due(about(call), got, want);
    }

    static void due(String call, boolean got, boolean want) {
        Check.due(about(call), got, want);
    }

    static void noHeight(String call, RockingTable table, int point) {
        Check.noHeight(about(call), table, point);
    }

    /** The FAULT of a text as a GARDEN. */
    static void garden(String text, int want) {
        due("fault(0) of '" + text + "'", Check.fault(0, text), want);
    }

    /** The FAULT of a text as a WISH. */
    static void wish(String text, int want) {
        due("fault(1) of '" + text + "'", Check.fault(1, text), want);
    }

    // ---- the document

    private static String plain(String text) {
        return text.replace("`", "").replaceAll("\\s+", " ").trim();
    }

    static void lookUp(Path document) throws IOException {
        if (!Files.exists(document)) {
            System.out.println("no " + document + ": its sentences were not looked up");
            return;
        }
        String whole = Files.readString(document).replaceAll("```[a-z]*", "").replaceAll("==== \\d\\.", "");
        String[] blocks = new String[PROMISES + 1];
        blocks[0] = plain(whole.substring(0, whole.indexOf("## Promise 1:")));
        for (int n = 1; n <= PROMISES; n++) {
            Matcher block = Pattern.compile("## Promise " + n + ": [^\\n]*\\n(.*?)(?=\\n## |$)", Pattern.DOTALL).matcher(whole);
            Check.due("the document has promise " + n, block.find(), true);
            blocks[n] = plain(block.group(1).replaceFirst("`[^`]*`:", ""));
        }
        quotedRight(blocks);
        for (int n = 1; n <= PROMISES; n++) {
            for (String one : blocks[n].split("(?<=[^. ]\\.)\\s")) {
                Check.due("promise " + n + " has a test of \"" + one + "\"", isNamed(n, one), true);
            }
        }
        everyTermIsNamed(blocks[0].substring(blocks[0].indexOf("## Terms") + 8));
    }

    /** What no test quotes of the terms must be words that name no boundary. */
    private static void everyTermIsNamed(String terms) {
        boolean[] named = new boolean[terms.length()];
        List<String> all = new ArrayList<>(words);
        all.addAll(List.of(NO_BOUNDARY));
        for (String quoted : all) {
            for (int from = terms.indexOf(quoted); from >= 0; from = terms.indexOf(quoted, from + 1)) {
                Arrays.fill(named, from, from + quoted.length(), true);
            }
        }
        StringBuilder left = new StringBuilder();
        for (int i = 0; i < named.length; i++) {
            left.append(named[i] ? '|' : terms.charAt(i));
        }
        for (String part : left.toString().split("\\|+")) {
            Check.due("no test names \"" + part.trim() + "\"", part.matches(".*[a-zA-Z0-9].*"), false);
        }
    }

    private static void quotedRight(String[] blocks) {
        for (int i = 0; i < words.size(); i++) {
            int n = numbers.get(i)[0];
            boolean told = blocks[0].contains(words.get(i)) || blocks[n].contains(words.get(i));
            Check.due("promise " + n + ": the document says \"" + words.get(i) + "\"", told, true);
        }
    }

    /** By a test of just these words, or by tests of parts of them. */
    private static boolean isNamed(int n, String one) {
        for (int i = 0; i < words.size(); i++) {
            if (numbers.get(i)[0] == n && one.contains(words.get(i))) {
                return true;
            }
        }
        return false;
    }
}
