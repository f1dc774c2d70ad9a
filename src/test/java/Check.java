import java.nio.charset.StandardCharsets;

/** Counts the answers that are not as due, and feeds texts. */
final class Check {
    private static int wrong = 0;
    private static int asked = 0;

    private Check() {
    }

    static void due(String call, long got, long want) {
        asked++;
        if (got != want) {
            wrong++;
            if (wrong <= 40) {
                System.out.println(call + " answered " + got + ", due is " + want);
            }
        }
    }

    static void due(String call, boolean got, boolean want) {
        due(call, got ? 1 : 0, want ? 1 : 0);
    }

    /** The TAPE holds this text alone then. */
    static int tape(RockingTable table, String text) {
        table.end(0);
        byte[] bytes = text.getBytes(StandardCharsets.ISO_8859_1);
        int fed = 0;
        for (int from = 0; from < bytes.length; from += 20) {
            int[] words = new int[5];
            for (int i = 0; i < 20; i++) {
                int one = from + i < bytes.length ? bytes[from + i] & 255 : 0;
                words[i / 4] = words[i / 4] << 8 | one;
            }
            fed = table.feed(words[0], words[1], words[2], words[3], words[4]);
        }
        return fed;
    }

    static RockingTable garden(String text) {
        RockingTable table = new RockingTable();
        tape(table, text);
        if (table.text(0) < 0) {
            due("text(0) of " + text + " (1: it was taken)", 0, 1);
        }
        return table;
    }

    static int fault(int sort, String text) {
        RockingTable table = new RockingTable();
        tape(table, text);
        return table.fault(sort);
    }

    static void noHeight(String call, RockingTable table, int point) {
        boolean thrown = false;
        try {
            table.height(point);
        } catch (java.util.NoSuchElementException e) {
            thrown = e.getClass() == java.util.NoSuchElementException.class;
        }
        due(call + " throws NoSuchElementException", thrown, true);
    }

    static void finish(String name) {
        System.out.println(name + ": " + asked + " answers, " + wrong + " of them wrong");
        if (wrong != 0) {
            System.exit(1);
        }
    }
}
