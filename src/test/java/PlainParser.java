import java.util.ArrayList;
import java.util.List;
import java.util.Map;
import java.util.Set;

/** Part II of the document again: all tokens first, then a parser that stops by an exception. */
final class PlainParser {
    private record Token(String sign, int place) { }

    private static final Set<String> NAMES =
            Set.of("beat", "chest", "pulse", "time", "block", "asleep", "lag", "air", "high", "note");
    private static final Map<String, Set<String>> NAMES_OF = Map.of(
            "breath", Set.of("beat", "chest", "pulse", "time", "block", "asleep"),
            "passes", Set.of("beat", "chest", "pulse", "time", "block", "asleep", "lag"),
            "holds", Set.of("beat", "air", "high", "note"));
    private static final Map<String, String> CLAUSES = Map.ofEntries(
            Map.entry("seat", "0-3 lag 0-9"),
            Map.entry("one", "1-9 pulse 1-9 start 0-17"),
            Map.entry("note", "0-9999 high 0-99"),
            Map.entry("sit", "0-9 on 0-9"),
            Map.entry("sleep", "0-9"),
            Map.entry("wake", "0-9"),
            Map.entry("hold", "0-9"),
            Map.entry("usher", "0-3"),
            Map.entry("cough", "0-9"),
            Map.entry("beat", "1-999"));

    private final List<Token> tokens = new ArrayList<>();
    private int at = 0;
    private int open = 0;
    private String law = "";

    PlainParser(byte[] bytes) {
        StringBuilder all = new StringBuilder();
        for (byte b : bytes) all.append((char) (b & 255));
        String rest = all.toString();
        java.util.regex.Matcher m = java.util.regex.Pattern
                .compile("[a-zA-Z]+|[0-9]+|<=|>=|[ \n]+|.", java.util.regex.Pattern.DOTALL).matcher(rest);
        while (m.find()) if (!m.group().matches("[ \n]+")) tokens.add(new Token(m.group(), m.start()));
        tokens.add(new Token("", bytes.length));
    }

    private String peek() { return tokens.get(at).sign(); }

    private RuntimeException fault(int number) { return new PlainModel.Fault(number, tokens.get(at).place()); }

    private boolean accept(String sign) {
        if (!peek().equals(sign)) return false;
        at++;
        return true;
    }

    private void expect(String sign) { if (!accept(sign)) throw fault(1); }

    private int number(int least, int most) {
        if (!peek().matches("[0-9]+")) throw fault(1);
        java.math.BigInteger n = new java.math.BigInteger(peek());
        if (n.bitLength() > 20 || n.intValue() < least || n.intValue() > most) throw fault(2);
        at++;
        return n.intValue();
    }

    PlainModel.Script script() {
        PlainModel.Script script = new PlainModel.Script();
        while (!peek().isEmpty()) {
            String word = peek();
            if (!CLAUSES.containsKey(word) && !NAMES_OF.containsKey(word)) throw fault(1);
            if (NAMES_OF.containsKey(word) && script.words.contains(word)) throw fault(4);
            if (script.words.size() == 24) throw fault(6);
            at++;
            int[] numbers = new int[3];
            law = word;
            switch (word) {
                case "breath" -> script.breath = sum();
                case "passes" -> script.passes = sum();
                case "holds" -> script.holds = either();
                default -> numbers(CLAUSES.get(word), numbers);
            }
            expect(";");
            script.words.add(word);
            script.clauses.add(numbers);
        }
        return script;
    }

    private void numbers(String form, int[] into) {
        int n = 0;
        for (String part : form.split(" ")) {
            if (part.contains("-")) {
                String[] ends = part.split("-");
                into[n++] = number(Integer.parseInt(ends[0]), Integer.parseInt(ends[1]));
            } else {
                expect(part);
            }
        }
    }

    private static long cut(long v) { return Math.max(-1000000, Math.min(1000000, v)); }

    private PlainModel.Value either() {
        PlainModel.Value left = both();
        while (accept("or")) {
            PlainModel.Value a = left;
            PlainModel.Value b = both();
            left = n -> a.of(n) != 0 || b.of(n) != 0 ? 1 : 0;
        }
        return left;
    }

    private PlainModel.Value both() {
        PlainModel.Value left = ask();
        while (accept("and")) {
            PlainModel.Value a = left;
            PlainModel.Value b = ask();
            left = n -> a.of(n) != 0 && b.of(n) != 0 ? 1 : 0;
        }
        return left;
    }

    private void opens() { if (++open == 9) throw fault(3); }

    private PlainModel.Value ask() {
        if (peek().equals("not")) {
            opens();
            at++;
            PlainModel.Value a = ask();
            open--;
            return n -> a.of(n) == 0 ? 1 : 0;
        }
        PlainModel.Value a = sum();
        String sign = peek();
        if (!Set.of("<", "<=", ">", ">=", "=", "#").contains(sign)) throw fault(1);
        at++;
        PlainModel.Value b = sum();
        return n -> {
            int c = Long.compare(a.of(n), b.of(n));
            boolean so = switch (sign) {
                case "<" -> c < 0;
                case "<=" -> c <= 0;
                case ">" -> c > 0;
                case ">=" -> c >= 0;
                case "=" -> c == 0;
                default -> c != 0;
            };
            return so ? 1 : 0;
        };
    }

    private PlainModel.Value sum() {
        PlainModel.Value left = product();
        while (peek().equals("+") || peek().equals("-")) {
            boolean plus = peek().equals("+");
            at++;
            PlainModel.Value a = left;
            PlainModel.Value b = product();
            left = n -> cut(plus ? a.of(n) + b.of(n) : a.of(n) - b.of(n));
        }
        return left;
    }

    private PlainModel.Value product() {
        PlainModel.Value left = one();
        while (Set.of("*", "/", "%").contains(peek())) {
            String sign = peek();
            at++;
            PlainModel.Value a = left;
            PlainModel.Value b = one();
            left = n -> {
                long y = b.of(n);
                if (sign.equals("*")) return cut(a.of(n) * y);
                return y == 0 ? 0 : sign.equals("/") ? a.of(n) / y : a.of(n) % y;
            };
        }
        return left;
    }

    private PlainModel.Value one() {
        String sign = peek();
        if (sign.matches("[0-9]+")) {
            int number = number(0, 9999);
            return n -> number;
        }
        if (NAMES.contains(sign)) {
            if (!NAMES_OF.get(law).contains(sign)) throw fault(5);
            at++;
            return name(sign);
        }
        if (!Set.of("(", "-", "middle").contains(sign)) throw fault(1);
        opens();
        at++;
        PlainModel.Value made;
        if (sign.equals("-")) {
            PlainModel.Value a = one();
            made = n -> -a.of(n);
        } else if (sign.equals("(")) {
            made = sum();
            expect(")");
        } else {
            expect("(");
            PlainModel.Value a = sum();
            expect(",");
            PlainModel.Value b = sum();
            expect(",");
            PlainModel.Value c = sum();
            expect(")");
            made = n -> {
                long[] three = {a.of(n), b.of(n), c.of(n)};
                java.util.Arrays.sort(three);
                return three[1];
            };
        }
        open--;
        return made;
    }

    private static PlainModel.Value name(String name) {
        return switch (name) {
            case "beat" -> n -> n.beat;
            case "chest" -> n -> n.chest;
            case "pulse" -> n -> n.pulse;
            case "time" -> n -> n.time;
            case "block" -> n -> n.block;
            case "asleep" -> n -> n.asleep;
            case "lag" -> n -> n.lag;
            case "air" -> n -> n.air;
            case "high" -> n -> n.high;
            default -> n -> n.note;
        };
    }
}
