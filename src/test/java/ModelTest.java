import java.util.Random;

/** Random runs of at most 512 calls: the class has to answer every call as the plain model does. */
public final class ModelTest {
    private static final int RUNS = 3000;

    private static final class Run {
        final Random random;
        final BreatheAsOne x = new BreatheAsOne();
        final PlainModel m = new PlainModel();
        final StringBuilder log = new StringBuilder();
        boolean wrong = false;

        Run(long seed) { random = new Random(seed); }

        void due(String call, long got, long want) {
            log.append(call).append(" = ").append(got).append('\n');
            if (got != want && !wrong) {
                wrong = true;
                System.out.println(log + "but due is " + want);
            }
        }

        int upTo(int n) { return random.nextInt(n + 1); }

        /** Mostly one of those there are, at times one beside. */
        int near(int count) {
            int r = random.nextInt(20);
            return r == 0 ? -1 : r == 1 ? count : r == 2 ? -2 : count == 0 ? 0 : random.nextInt(count);
        }

        int between(int least, int most) {
            int r = random.nextInt(25);
            return r == 0 ? least - 1 : r == 1 ? most + 1 : least + random.nextInt(most - least + 1);
        }

        int seats() { return m.now.seats.size(); }

        int people() { return m.now.people.size(); }

        int notes() { return m.now.notes.size(); }

        int noteSet() {
            int r = random.nextInt(12);
            if (r == 0) return -1;
            if (r == 1) return 1 << notes();
            if (r < 7) return m.fell();
            if (r < 10 && people() > 0 && notes() > 0) {
                return m.fell() ^ 1 << random.nextInt(notes());
            }
            return random.nextInt(1 << notes());
        }

        int smallSet(int count) {
            int set = 0;
            int size = random.nextInt(10) == 0 ? random.nextInt(8) : 1 + random.nextInt(5);
            for (int i = 0; i < size && count > 0; i++) set |= 1 << random.nextInt(count + (random.nextInt(30) == 0 ? 1 : 0));
            return random.nextInt(40) == 0 ? -set : set;
        }

        int someBeat() {
            int r = random.nextInt(6);
            if (r == 0) return between(0, 9999);
            return r < 4 ? m.now.beat : m.now.beat + random.nextInt(20);
        }

        void build() {
            int what = random.nextInt(3);
            if (what == 0) {
                int b = between(0, 3);
                int l = between(0, 9);
                due("seat(" + b + "," + l + ")", x.seat(b, l), m.seat(b, l));
            } else if (what == 1) {
                int c = between(1, 9);
                int p = between(1, random.nextBoolean() ? 3 : 9);
                int s = between(0, 17);
                due("person(" + c + "," + p + "," + s + ")", x.person(c, p, s), m.person(c, p, s));
            } else {
                int b = random.nextInt(10) == 0 ? between(0, 9999) : m.now.beat + random.nextInt(12);
                int h = random.nextInt(5) == 0 ? between(0, 99) : random.nextInt(25);
                due("note(" + b + "," + h + ")", x.note(b, h), m.note(b, h));
            }
        }

        void text() {
            String s = new TextMaker(random).make();
            if (random.nextInt(8) != 0) due("end(0)", x.end(0), m.end(0));
            byte[] bytes = new byte[(s.length() + 19) / 20 * 20];
            for (int i = 0; i < s.length(); i++) bytes[i] = (byte) s.charAt(i);
            for (int i = 0; i < bytes.length; i += 20) {
                int[] w = new int[5];
                for (int k = 0; k < 20; k++) w[k / 4] = w[k / 4] << 8 | bytes[i + k] & 255;
                due("feed", x.feed(w[0], w[1], w[2], w[3], w[4]), m.feed(w[0], w[1], w[2], w[3], w[4]));
            }
            int n = random.nextInt(10) == 0 ? between(0, 300) : s.length();
            due("end(" + n + ")", x.end(n), m.end(n));
            due("text() of " + s, x.text(), m.text());
            due("fault(0)", x.fault(0), m.fault(0));
            due("fault(1)", x.fault(1), m.fault(1));
            int t = near(m.now.texts.size());
            due("by(" + t + ")", bit(x.by(t)), bit(m.by(t)));
        }

        static long bit(boolean so) { return so ? 1 : 0; }

        void act() {
            int p = near(people());
            int q = near(people());
            int s = near(seats());
            int n = between(0, 3);
            boolean so = random.nextBoolean();
            switch (random.nextInt(12)) {
                case 0, 1, 2 -> due("sit(" + p + "," + s + ")", bit(x.sit(p, s)), bit(m.sit(p, s)));
                case 3 -> due("change(" + p + "," + q + ")", bit(x.change(p, q)), bit(m.change(p, q)));
                case 4 -> due("be(" + p + "," + n + ")", bit(x.be(p, n)), bit(m.be(p, n)));
                case 5 -> due("usher(" + n + "," + so + ")", bit(x.usher(n, so)), bit(m.usher(n, so)));
                case 6, 7 -> due("cough(" + p + ")", x.cough(p), m.cough(p));
                case 8 -> {
                    int b = random.nextInt(4) == 0 ? between(1, 999) : n;
                    due("beat(" + b + ")", x.beat(b), m.beat(b));
                }
                case 9 -> {
                    int t = near(m.now.texts.size());
                    due("played(" + t + ")", x.played(t), m.played(t));
                }
                case 10 -> {
                    int seed = between(0, 9999);
                    int k = random.nextBoolean() ? between(1, 40) : n;
                    due("season(" + seed + "," + k + ")", x.season(seed, k), m.season(seed, k));
                }
                default -> {
                    for (int i = random.nextInt(4); i >= 0; i--) due("undo()", x.undo(), m.undo());
                }
            }
        }

        void tell() {
            int p = near(people());
            int q = near(people());
            int b = someBeat();
            int h = between(-1, 1);
            switch (random.nextInt(9)) {
                case 0, 1, 2 -> due("beside(" + p + "," + q + ")", x.beside(p, q), m.beside(p, q));
                case 3, 4, 5, 6 -> due("seen(" + p + "," + b + "," + h + ")", x.seen(p, b, h), m.seen(p, b, h));
                case 7 -> due("image()", x.image(), m.image());
                default -> { if (random.nextInt(3) == 0) due("back()", x.back(), m.back()); }
            }
        }

        void look() {
            int p = near(people());
            int s = near(seats());
            int n = near(notes());
            int w = between(0, 6);
            int b = someBeat();
            int c = near(m.now.coughs.size());
            due("of(" + p + "," + w + ")", x.of(p, w), m.of(p, w));
            due("ofSeat(" + s + "," + w + ")", x.ofSeat(s, w), m.ofSeat(s, w));
            due("ofNote(" + n + "," + w + ")", x.ofNote(n, w), m.ofNote(n, w));
            due("air(" + b + ")", x.air(b), m.air(b));
            due("coughs(" + c + "," + w % 3 + ")", x.coughs(c, w % 3), m.coughs(c, w % 3));
            due("fault(" + w + ")", x.fault(w), m.fault(w));
            int a = between(0, 11);
            due("about(" + a + ")", x.about(a), m.about(a));
        }

        void ask() {
            int p = near(people());
            int q = near(people());
            int set = noteSet();
            boolean so = random.nextBoolean();
            switch (random.nextInt(15)) {
                case 0 -> due("fell()", x.fell(), m.fell());
                case 1 -> due("whoIsOut(" + set + ")", x.whoIsOut(set), m.whoIsOut(set));
                case 2 -> {
                    int i = near(5);
                    due("hiccupped(" + set + "," + i + ")", x.hiccupped(set, i), m.hiccupped(set, i));
                }
                case 3 -> {
                    int ps = smallSet(people());
                    int ss = smallSet(seats());
                    for (int i = 0; i < 30 && Integer.bitCount(ss) != Integer.bitCount(ps); i++) ss = smallSet(seats());
                    int who = random.nextInt(3) == 0 ? -1 : p;
                    due("seated(" + ps + "," + ss + "," + who + ")", x.seated(ps, ss, who), m.seated(ps, ss, who));
                }
                case 4 -> {
                    int few = random.nextBoolean() && notes() > 0 ? 1 << random.nextInt(notes()) : set;
                    due("ushers(" + few + ")", x.ushers(few), m.ushers(few));
                }
                case 5 -> due("cannot()", x.cannot(), m.cannot());
                case 6 -> due("shift(" + so + ")", x.shift(so), m.shift(so));
                case 7 -> due("inTime(" + p + ")", x.inTime(p), m.inTime(p));
                case 8 -> due("choir()", x.choir(), m.choir());
                case 9 -> due("comes(" + p + "," + q + "," + so + ")", x.comes(p, q, so), m.comes(p, q, so));
                case 10 -> {
                    int n = random.nextBoolean() ? between(1, 200) : random.nextInt(9);
                    int w = between(0, 3);
                    due("needed(" + n + "," + w + ")", x.needed(n, w), m.needed(n, w));
                }
                case 11 -> {
                    int f = between(0, 3);
                    int g = between(0, 3);
                    int n = near(notes());
                    due("duel(" + f + "," + g + "," + n + "," + so + ")", x.duel(f, g, n, so), m.duel(f, g, n, so));
                }
                case 12 -> {
                    int ps = smallSet(people());
                    int who = random.nextInt(3) == 0 ? -1 : p;
                    int seat = between(0, 4);
                    due("chairs(" + ps + "," + who + "," + seat + ")", x.chairs(ps, who, seat), m.chairs(ps, who, seat));
                }
                case 13 -> due("whoseLaw(" + set + ")", x.whoseLaw(set), m.whoseLaw(set));
                default -> due("starts(" + p + ")", x.starts(p), m.starts(p));
            }
        }

        /** A hall in which almost all sit, mostly in two blocks, and low notes, so that much can hold. */
        void furnish() {
            int one = random.nextInt(4);
            int other = random.nextInt(4);
            int size = 3 + random.nextInt(8);
            for (int i = 0; i < size; i++) {
                int block = random.nextInt(8) == 0 ? random.nextInt(4) : random.nextBoolean() ? one : other;
                int lag = random.nextInt(10);
                due("seat(" + block + "," + lag + ")", x.seat(block, lag), m.seat(block, lag));
                int chest = 1 + random.nextInt(9);
                int pulse = 1 + random.nextInt(random.nextBoolean() ? 3 : 9);
                int start = random.nextInt(18);
                due("person(" + chest + "," + pulse + "," + start + ")", x.person(chest, pulse, start), m.person(chest, pulse, start));
            }
            for (int i = 0; i < size; i++) {
                int to = random.nextInt(4) == 0 ? random.nextInt(size) : i;
                due("sit(" + i + "," + to + ")", bit(x.sit(i, to)), bit(m.sit(i, to)));
            }
            int notes = 1 + random.nextInt(12);
            for (int i = 0; i < notes; i++) {
                int b = random.nextInt(random.nextBoolean() ? 4 : 30);
                int high = random.nextInt(random.nextBoolean() ? 3 : 20);
                due("note(" + b + "," + high + ")", x.note(b, high), m.note(b, high));
            }
        }

        void all() {
            int first = random.nextInt(25);
            if (random.nextBoolean()) furnish();
            else for (int i = 0; i < first; i++) build();
            for (int i = 0; i < 90 && !wrong; i++) {
                switch (random.nextInt(12)) {
                    case 0 -> build();
                    case 1 -> text();
                    case 2, 3, 4, 5 -> act();
                    case 6 -> tell();
                    case 7 -> look();
                    default -> ask();
                }
            }
        }
    }

    public static void main(String[] args) {
        int runs = args.length > 0 ? Integer.parseInt(args[0]) : RUNS;
        long from = args.length > 1 ? Long.parseLong(args[1]) : 0;
        int wrong = 0;
        for (int i = 0; i < runs && wrong < 3; i++) {
            Run run = new Run(from + i);
            run.all();
            if (run.wrong) {
                wrong++;
                System.out.println("in run " + (from + i));
            }
        }
        System.out.println(wrong == 0 ? runs + " runs are as the model's" : wrong + " runs are not");
        if (wrong != 0) System.exit(1);
    }
}
