import java.nio.charset.StandardCharsets;
import java.util.ArrayList;
import java.util.HashMap;
import java.util.HashSet;
import java.util.List;
import java.util.Map;
import java.util.Random;
import java.util.Set;

/**
 * Promises 16 and 17 against the grammar itself: an Earley recogniser, which knows at every token
 * whether some text goes on with it, tells the fault of many made texts.
 */
public final class FaultModelTest {
    private static final int NONE = ServantRegistry.NONE;
    private static final Map<String, List<String[]>> GRAMMAR = new HashMap<>();
    private static final String[] PIECES = {"fee", "house", "servant", "if", ";", "notice", "back",
        "within", "age", "least", "bar", "church", "step", "after", "box", "habit", "kitchen", "nurse",
        "cook", "coach", "butler", "or", "and", "not", "(", ")", "<", ">", "=", "wage", "post", "town",
        "skills", "day", "0", "7", "100", "101", "300", "301", "9999", "10000", "x", "feex", "A", "-",
        "\t", "\u00e9", " ", "\n"};

    private record Item(String head, String[] body, int dot, int start) {
        String next() {
            return dot < body.length ? body[dot] : null;
        }

        Item moved() {
            return new Item(head, body, dot + 1, start);
        }

        String key() {
            return head + " " + String.join(" ", body) + ":" + dot + ":" + start;
        }
    }

    /** What stands at a place of a chart: each item once. */
    private static final class Row {
        final List<Item> items = new ArrayList<>();
        final Set<String> keys = new HashSet<>();

        void add(Item item) {
            if (keys.add(item.key())) {
                items.add(item);
            }
        }
    }

    public static void main(String[] args) {
        makeGrammar();
        Random random = new Random(16);
        for (int i = 0; i < 3000; i++) {
            List<String> pieces = new ArrayList<>();
            make("T0", random, pieces, 1 + random.nextInt(8));
            for (int k = random.nextInt(3); k > 0; k--) {
                spoil(pieces, random);
            }
            String text = join(pieces, random);
            if (random.nextInt(4) == 0) {
                text = text.substring(0, random.nextInt(text.length() + 1));
            }
            if (text.length() <= 700) {
                Check.due("fault of '" + text + "'", Check.faultOf(text), faultByGrammar(text));
            }
        }
        manyStatements(random);
        Check.end();
    }

    private static void manyStatements(Random random) {
        for (int i = 0; i < 200; i++) {
            StringBuilder text = new StringBuilder();
            for (int k = 28 + random.nextInt(5); k > 0; k--) {
                text.append(random.nextBoolean() ? "box 1;" : " bar church;\n");
            }
            String made = text.toString();
            Check.due("fault of '" + made + "'", Check.faultOf(made), faultByGrammar(made));
        }
    }

    private static void rule(String head, String body) {
        GRAMMAR.computeIfAbsent(head, k -> new ArrayList<>())
                .add(body.isEmpty() ? new String[0] : body.split(" "));
    }

    private static void makeGrammar() {
        for (int k = 0; k <= 30; k++) {
            rule("T" + k, "");
            if (k < 30) {
                rule("T" + k, "STATEMENT T" + (k + 1));
            }
        }
        rule("STATEMENT", "'fee SIDE #9999 #300 IF ';");
        rule("STATEMENT", "'notice #9999 ';");
        rule("STATEMENT", "'back #100 'within #9999 ';");
        rule("STATEMENT", "'age POST #9999 ';");
        rule("STATEMENT", "'least POST #9999 IF ';");
        rule("STATEMENT", "'bar 'church ';");
        rule("STATEMENT", "'step POST POST 'after #9999 ';");
        rule("STATEMENT", "'box #9999 ';");
        rule("STATEMENT", "'habit #9999 ';");
        rule("SIDE", "'house");
        rule("SIDE", "'servant");
        rule("IF", "'if ANY0");
        rule("IF", "");
        for (String post : new String[] {"kitchen", "house", "nurse", "cook", "coach", "butler"}) {
            rule("POST", "'" + post);
        }
        for (String word : new String[] {"wage", "post", "town", "age", "skills", "day"}) {
            rule("WORD", "'" + word);
        }
        for (String sign : new String[] {"<", ">", "="}) {
            rule("SIGN", "'" + sign);
        }
        for (int d = 0; d <= 10; d++) {
            rule("ANY" + d, "ALL" + d);
            rule("ANY" + d, "ANY" + d + " 'or ALL" + d);
            rule("ALL" + d, "ONE" + d);
            rule("ALL" + d, "ALL" + d + " 'and ONE" + d);
            rule("ONE" + d, "WORD SIGN #9999");
            if (d < 10) {
                rule("ONE" + d, "'not ONE" + (d + 1));
                rule("ONE" + d, "'( ANY" + (d + 1) + " ')");
            }
        }
    }

    /** Writes out a symbol at random; the deeper, the sooner it ends. */
    private static void make(String symbol, Random random, List<String> out, int statements) {
        if (symbol.startsWith("'")) {
            out.add(symbol.substring(1));
            return;
        }
        if (symbol.startsWith("#")) {
            int most = Integer.parseInt(symbol.substring(1));
            out.add(Integer.toString(random.nextInt(20) == 0 ? most + 1 : random.nextInt(most + 1)));
            return;
        }
        List<String[]> ways = GRAMMAR.get(symbol);
        int way = random.nextInt(ways.size());
        if (symbol.startsWith("T")) {
            way = out.stream().filter(";"::equals).count() < statements ? ways.size() - 1 : 0;
        } else if (symbol.startsWith("A") && random.nextInt(3) != 0) {
            way = 0;
        } else if (symbol.startsWith("ONE") && ways.size() > 1) {
            way = random.nextInt(3) == 0 ? 0 : 1 + random.nextInt(2);
        }
        for (String part : ways.get(way)) {
            make(part, random, out, statements);
        }
    }

    private static void spoil(List<String> pieces, Random random) {
        String piece = PIECES[random.nextInt(PIECES.length)];
        int at = random.nextInt(pieces.size() + 1);
        int how = random.nextInt(3);
        if (how == 0 || at == pieces.size()) {
            pieces.add(at, piece);
        } else if (how == 1) {
            pieces.set(at, piece);
        } else {
            pieces.remove(at);
        }
    }

    private static String join(List<String> pieces, Random random) {
        StringBuilder text = new StringBuilder();
        for (String piece : pieces) {
            boolean touches = text.length() > 0 && !piece.isEmpty()
                    && Character.isLetterOrDigit(piece.charAt(0))
                    && Character.isLetterOrDigit(text.charAt(text.length() - 1));
            if (touches && random.nextInt(40) != 0 || random.nextInt(8) == 0) {
                text.append(random.nextInt(5) == 0 ? '\n' : ' ');
            }
            text.append(piece);
        }
        return text.toString();
    }

    private static int faultByGrammar(String text) {
        byte[] bytes = text.getBytes(StandardCharsets.ISO_8859_1);
        Row row = new Row();
        for (String[] body : GRAMMAR.get("T0")) {
            row.add(new Item("T0", body, 0, 0));
        }
        List<Row> chart = new ArrayList<>();
        chart.add(row);
        int at = 0;
        while (true) {
            close(chart);
            while (at < bytes.length && (bytes[at] == 32 || bytes[at] == 10)) {
                at++;
            }
            if (at == bytes.length) {
                return isWhole(chart.get(chart.size() - 1)) ? NONE : bytes.length;
            }
            int end = at + 1;
            while (end < bytes.length && kind(bytes[at]) < 2 && kind(bytes[end]) == kind(bytes[at])) {
                end++;
            }
            Row next = new Row();
            for (Item item : chart.get(chart.size() - 1).items) {
                if (item.next() != null && takes(item.next(), text.substring(at, end))) {
                    next.add(item.moved());
                }
            }
            if (next.items.isEmpty()) {
                return at;
            }
            chart.add(next);
            at = end;
        }
    }

    private static int kind(byte b) {
        return b >= 'a' && b <= 'z' ? 0 : b >= '0' && b <= '9' ? 1 : 2;
    }

    private static boolean takes(String symbol, String token) {
        if (symbol.startsWith("'")) {
            return symbol.substring(1).equals(token);
        }
        return symbol.startsWith("#") && token.matches("[0-9]{1,4}")
                && Integer.parseInt(token) <= Integer.parseInt(symbol.substring(1));
    }

    private static void close(List<Row> chart) {
        int here = chart.size() - 1;
        Row row = chart.get(here);
        for (int i = 0; i < row.items.size(); i++) {
            Item item = row.items.get(i);
            String next = item.next();
            if (next == null) {
                Row from = chart.get(item.start());
                for (int j = 0; j < from.items.size(); j++) {
                    if (item.head().equals(from.items.get(j).next())) {
                        row.add(from.items.get(j).moved());
                    }
                }
            } else if (GRAMMAR.containsKey(next)) {
                for (String[] body : GRAMMAR.get(next)) {
                    row.add(new Item(next, body, 0, here));
                    if (body.length == 0) {
                        row.add(item.moved());
                    }
                }
            }
        }
    }

    private static boolean isWhole(Row row) {
        for (Item item : row.items) {
            if (item.head().equals("T0") && item.next() == null && item.start() == 0) {
                return true;
            }
        }
        return false;
    }
}
