import java.util.Random;

/** Texts for random runs: most are fine, some are spoilt. */
final class TextMaker {
    private static final String[] SIGNS = {"<", "<=", ">", ">=", "=", "#"};
    private static final String[] TOKENS = {"<", "<=", ">=", "=", "#", "+", "-", "*", "/", "%", "(", ")", ",", ";", "!", "\u00e9",
        "beat", "chest", "pulse", "time", "block", "asleep", "lag", "air", "high", "note", "breath", "passes", "holds", "seat",
        "one", "sit", "sleep", "wake", "hold", "usher", "cough", "start", "on", "or", "and", "not", "middle", "Beat", "x",
        "0", "10", "100", "9999", "10000", "00012", "99999999999999", " ", "\n", "\t"};

    private final Random random;

    TextMaker(Random random) { this.random = random; }

    String make() {
        StringBuilder s = new StringBuilder();
        boolean[] had = new boolean[3];
        int clauses = random.nextInt(40) == 0 ? 30 : random.nextInt(9);
        for (int i = 0; i < clauses; i++) {
            String c = clauses == 30 ? "wake 0;" : clause(had);
            if (s.length() + c.length() <= 300) s.append(c);
        }
        if (random.nextInt(3) == 0) {
            for (int i = random.nextInt(2); i >= 0; i--) spoil(s);
        }
        if (s.length() > 300) s.setLength(300);
        return s.toString();
    }

    private void spoil(StringBuilder s) {
        int at = random.nextInt(s.length() + 1);
        int to = Math.min(s.length(), at + random.nextInt(4));
        switch (random.nextInt(4)) {
            case 0 -> s.delete(at, to);
            case 1 -> s.setLength(at);
            default -> s.insert(at, " " + TOKENS[random.nextInt(TOKENS.length)] + " ");
        }
    }

    private String clause(boolean[] had) {
        int r = random.nextInt(16);
        if (r < 3 && (!had[r] || random.nextInt(10) == 0)) {
            had[r] = true;
            return r == 0 ? "breath " + sum(0, r) + ";" : r == 1 ? "passes " + sum(0, r) + ";" : "holds " + either() + ";";
        }
        String[] simple = {"sleep", "wake", "hold", "cough"};
        return switch (r) {
            case 3 -> "seat " + number(0, 3) + " lag " + number(0, 9) + ";";
            case 4 -> "one " + number(1, 9) + " pulse " + number(1, 9) + " start " + number(0, 17) + ";";
            case 5 -> "note " + number(0, 20) + " high " + number(0, 20) + ";";
            case 6, 7, 8 -> "sit " + number(0, 9) + " on " + number(0, 9) + ";";
            case 9 -> "usher " + number(0, 3) + ";";
            case 10 -> "beat " + number(1, 999) + ";";
            default -> simple[random.nextInt(4)] + " " + number(0, 9) + "; ";
        };
    }

    private int number(int least, int most) {
        int r = random.nextInt(60);
        return r == 0 && least > 0 ? least - 1 : r == 1 ? most + 1 : least + random.nextInt(most - least + 1);
    }

    private String either() {
        StringBuilder s = new StringBuilder(ask());
        while (random.nextInt(3) == 0) s.append(random.nextBoolean() ? " or " : " and ").append(ask());
        return s.toString();
    }

    private String ask() {
        StringBuilder s = new StringBuilder();
        while (random.nextInt(4) == 0) s.append("not ");
        if (random.nextInt(60) == 0) s.append("not not not not not not not ");
        return s + sum(0, 2) + SIGNS[random.nextInt(6)] + sum(0, 2);
    }

    private String sum(int depth, int law) {
        StringBuilder s = new StringBuilder(product(depth, law));
        while (random.nextInt(3) == 0) s.append(random.nextBoolean() ? "+" : " - ").append(product(depth, law));
        return s.toString();
    }

    private String product(int depth, int law) {
        StringBuilder s = new StringBuilder(one(depth, law));
        while (random.nextInt(4) == 0) s.append("*/%".charAt(random.nextInt(3))).append(one(depth, law));
        return s.toString();
    }

    private String one(int depth, int law) {
        int r = random.nextInt(depth > 6 ? 6 : 11);
        if (r < 2) return "" + (random.nextInt(5) == 0 ? number(0, 9999) : random.nextInt(12));
        if (r < 6) {
            String[] names = law == 2 ? new String[] {"beat", "air", "air", "high", "high", "note"}
                : new String[] {"beat", "chest", "pulse", "time", "block", "asleep", law == 1 || random.nextInt(40) == 0 ? "lag" : "time"};
            return names[random.nextInt(names.length)];
        }
        if (r < 8) return "(" + sum(depth + 1, law) + ")";
        if (r == 8) return "-" + one(depth + 1, law);
        if (r == 9 && random.nextInt(8) == 0) return "((((" + one(depth + 4, law) + "))))";
        return "middle(" + sum(depth + 2, law) + "," + sum(depth + 2, law) + "," + sum(depth + 2, law) + ")";
    }
}
