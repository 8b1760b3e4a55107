import java.nio.charset.StandardCharsets;

/** Counts answers that are not as due, and puts texts on a tape. */
final class Checks {
    private int wrong = 0;
    private int asked = 0;
    private int sentences = 0;
    private String of = "";

    void promise(int number) { of = "promise " + number; }

    /** What follows tests one sentence of the document; 0 is for words that stand ahead of the promises. */
    void sentence(int promise, String words) {
        sentences++;
        of = (promise == 0 ? "terms" : "promise " + promise) + ", '" + words + "'";
    }

    void due(String call, long got, long want) {
        asked++;
        if (got != want) {
            wrong++;
            System.out.println(of + ": " + call + " answered " + got + ", due is " + want);
        }
    }

    void due(String call, boolean got, boolean want) { due(call, got ? 1 : 0, want ? 1 : 0); }

    void finish() {
        String tested = sentences == 0 ? "" : " (" + sentences + " sentences)";
        System.out.println(wrong == 0 ? asked + " answers are as due" + tested : wrong + " of " + asked + " answers are not as due");
        if (wrong != 0) System.exit(1);
    }

    /** Feeds a text of up to 300 bytes to an empty tape. */
    static void tape(BreatheAsOne x, String text) {
        byte[] bytes = text.getBytes(StandardCharsets.ISO_8859_1);
        x.end(0);
        for (int i = 0; i < bytes.length; i += 20) {
            int[] w = new int[5];
            for (int k = 0; k < 20; k++) w[k / 4] = w[k / 4] << 8 | (i + k < bytes.length ? bytes[i + k] & 255 : 0);
            x.feed(w[0], w[1], w[2], w[3], w[4]);
        }
        x.end(bytes.length);
    }

    static int text(BreatheAsOne x, String text) {
        tape(x, text);
        return x.text();
    }

    /** The text's fault times 1000 and its place; 0 for none. */
    static int faultOf(String text) {
        BreatheAsOne x = new BreatheAsOne();
        int number = text(x, text);
        if (number == 0 && x.fault(0) == 0 && x.fault(1) == BreatheAsOne.NONE) return 0;
        return number == BreatheAsOne.NONE ? 1000 * x.fault(0) + x.fault(1) : -1;
    }
}
