import java.util.Random;

/** A WISH as a tree that was made by chance, with its text and its WORTH. */
final class SlowWish {
    private static final String LETTERS = "gptsn";
    private final Node[] conditions;
    private final Node[] sums;

    /** A part: a sign with what it joins, a number, or a letter (by its place). */
    private static final class Node {
        char sign;
        int number;
        Node left;
        Node right;
        /** The text's bracket: ( or [ around it, or none. */
        char bracket = 0;
    }

    private SlowWish(int clauses) {
        conditions = new Node[clauses];
        sums = new Node[clauses];
    }

    static SlowWish any(Random random) {
        SlowWish wish = new SlowWish(1 + random.nextInt(3));
        for (int i = 0; i < wish.sums.length; i++) {
            wish.conditions[i] = random.nextInt(3) == 0 ? null : condition(random, random.nextInt(5));
            wish.sums[i] = sum(random, random.nextInt(5));
        }
        return wish;
    }

    private static Node joined(char sign, Node left, Node right) {
        Node node = new Node();
        node.sign = sign;
        node.left = left;
        node.right = right;
        return node;
    }

    private static Node sum(Random random, int depth) {
        Node node = term(random, depth);
        while (random.nextInt(3) == 0) {
            node = joined("+-".charAt(random.nextInt(2)), node, term(random, depth));
        }
        return node;
    }

    private static Node term(Random random, int depth) {
        Node node = atom(random, depth);
        while (random.nextInt(3) == 0) {
            node = joined("*/".charAt(random.nextInt(2)), node, atom(random, depth));
        }
        return node;
    }

    private static Node atom(Random random, int depth) {
        if (depth > 0 && random.nextInt(3) == 0) {
            Node node = copy(sum(random, depth - 1));
            node.bracket = '[';
            return node;
        }
        Node node = new Node();
        node.sign = random.nextInt(3) == 0 ? '0' : LETTERS.charAt(random.nextInt(5));
        node.number = random.nextInt(4) == 0 ? random.nextInt(10000) : random.nextInt(30);
        return node;
    }

    /** Brackets around brackets are kept apart. */
    private static Node copy(Node inner) {
        return joined('#', inner, null);
    }

    private static Node condition(Random random, int depth) {
        Node node = truth(random, depth);
        while (random.nextInt(3) == 0) {
            node = joined('|', node, truth(random, depth));
        }
        return node;
    }

    private static Node truth(Random random, int depth) {
        Node node = unit(random, depth);
        while (random.nextInt(3) == 0) {
            node = joined('&', node, unit(random, depth));
        }
        return node;
    }

    private static Node unit(Random random, int depth) {
        int kind = depth > 0 ? random.nextInt(4) : 3;
        if (kind == 0) {
            return joined('!', unit(random, depth - 1), null);
        }
        if (kind == 1) {
            Node node = copy(condition(random, depth - 1));
            node.bracket = '(';
            return node;
        }
        return joined("=<>".charAt(random.nextInt(3)), sum(random, depth), sum(random, depth));
    }

    String text(Random random) {
        StringBuilder text = new StringBuilder();
        for (int i = 0; i < sums.length; i++) {
            if (i > 0) {
                put(text, ';', random);
            }
            put(text, 'y', random);
            put(text, ':', random);
            if (conditions[i] != null) {
                write(text, conditions[i], random);
                put(text, '?', random);
            }
            write(text, sums[i], random);
        }
        return text.toString();
    }

    private static void put(StringBuilder text, char sign, Random random) {
        text.append(sign);
        while (random.nextInt(12) == 0) {
            text.append(' ');
        }
    }

    private static void write(StringBuilder text, Node node, Random random) {
        if (node.sign == '#') {
            put(text, node.bracket, random);
            write(text, node.left, random);
            put(text, node.bracket == '(' ? ')' : ']', random);
        } else if (node.sign == '!') {
            put(text, '!', random);
            write(text, node.left, random);
        } else if (node.sign == '0') {
            String digits = String.valueOf(node.number);
            text.append(random.nextInt(5) == 0 ? "0000".substring(digits.length()) + digits : digits);
        } else if (node.left == null) {
            put(text, node.sign, random);
        } else {
            write(text, node.left, random);
            put(text, node.sign, random);
            write(text, node.right, random);
        }
    }

    long worth(long[] letters) {
        for (int i = 0; i < sums.length; i++) {
            if (conditions[i] == null || value(conditions[i], letters) != 0) {
                return value(sums[i], letters);
            }
        }
        return 0;
    }

    private static long value(Node node, long[] letters) {
        if (node.sign == '0') {
            return node.number;
        }
        if (node.left == null) {
            return letters[LETTERS.indexOf(node.sign)];
        }
        long left = value(node.left, letters);
        long right = node.right == null ? 0 : value(node.right, letters);
        switch (node.sign) {
            case '#': return left;
            case '!': return 1 - left;
            case '|': return Math.max(left, right);
            case '&': return Math.min(left, right);
            case '=': return left == right ? 1 : 0;
            case '<': return left < right ? 1 : 0;
            case '>': return left > right ? 1 : 0;
            case '+': return near(left + right);
            case '-': return near(left - right);
            case '*': return near(left * right);
            default: return right == 0 ? 0 : near(left / right);
        }
    }

    private static long near(long value) {
        return value > 1000000 ? 1000000 : value < -1000000 ? -1000000 : value;
    }
}
