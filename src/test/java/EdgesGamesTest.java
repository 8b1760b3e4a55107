/** Promises 35 to 43: each sentence that names an edge of duels, of what is told of people, of laws, of the image and about. */
public final class EdgesGamesTest {
    private static final int NONE = BreatheAsOne.NONE;
    private static final int LEAST = Integer.MIN_VALUE;
    private static final int MOST = Integer.MAX_VALUE;
    private static final int ALL_STARTS = 0x3ffff;
    private static final Checks c = new Checks();

    /** Those of block 0 first, those of block 1 behind them; chests 1, 2, ..; a note of this height at beat 0. */
    private static BreatheAsOne sides(int first, int second, int high, String law) {
        BreatheAsOne x = new BreatheAsOne();
        for (int i = 0; i < first + second; i++) {
            x.seat(i < first ? 0 : 1, 0);
            x.person(Math.min(9, i + 1), 1, 0);
            x.sit(i, i);
        }
        x.note(0, high);
        x.by(Checks.text(x, law));
        return x;
    }

    private static void duel(String what, BreatheAsOne x, int wins, int begins) {
        c.due(what + ": wins", x.duel(0, 1, 0, false), wins);
        c.due(what + ": begins", x.duel(0, 1, 0, true), begins);
    }

    private static void duelEnds() {
        String counts = "breath 1-asleep;";
        c.sentence(35, "who can't any more loses");
        duel("nobody at all", sides(0, 0, 0, counts), 0, NONE);
        duel("nobody at first", sides(0, 3, 0, counts), 0, NONE);
        duel("nobody against one", sides(1, 0, 0, counts), 1, 0);
        duel("one each", sides(1, 1, 0, counts), 0, NONE);
        duel("two against one", sides(2, 1, 0, counts), 1, 0);
        duel("five each", sides(5, 5, 0, counts), 0, NONE);
        duel("five against four", sides(5, 4, 0, counts), 1, 0);
        duel("four against five", sides(4, 5, 0, counts), 0, NONE);
        duel("six against four", sides(6, 4, 0, counts), 1, 0);
        duel("four against six", sides(4, 6, 0, counts), 0, NONE);
        c.sentence(35, "who makes the NOTE FALL by it loses");
        duel("none may sleep", sides(2, 2, 4, counts), 0, NONE);
        duel("one may sleep", sides(2, 2, 3, counts), 1, 0);
        duel("two may sleep", sides(2, 2, 2, counts), 0, NONE);
        duel("three may sleep", sides(2, 2, 1, counts), 1, 0);
        duel("seven may sleep", sides(5, 5, 3, counts), 1, 0);
        duel("eight may sleep", sides(5, 5, 2, counts), 0, NONE);
        c.sentence(35, "If it FALLS already, the second wins");
        duel("above all", sides(5, 5, 11, counts), 0, NONE);
        duel("though it would hold by sleep", sides(2, 1, 1, "breath asleep;"), 0, NONE);
        duel("nobody", sides(0, 0, 1, counts), 0, NONE);
        c.sentence(35, "one of its PEOPLE ASLEEP that sits there and isn't");
        BreatheAsOne x = sides(2, 1, 0, counts);
        x.be(0, 1);
        duel("one sleeps already", x, 0, NONE);
        x.be(0, 2);
        duel("who HOLDS can sleep", x, 1, 0);
        x.sit(0, NONE);
        duel("who sits on none can't", x, 0, NONE);
        c.due("of other blocks nobody can", sides(2, 1, 0, counts).duel(2, 3, 0, false), 0);
        c.due("the other way round", sides(1, 2, 0, counts).duel(1, 0, 0, true), 1);
    }

    private static void duelFive() {
        c.sentence(35, "of 5 at most a side: the lowest");
        String first = "breath asleep*(chest-%);holds air>=0;";
        duel("the fifth may", sides(6, 0, 0, first.replace("%", "5")), 1, 4);
        duel("the sixth may not", sides(6, 0, 0, first.replace("%", "6")), 0, NONE);
        String second = "breath asleep*block*(chest-%);holds air>=0;";
        duel("the fifth of the second", sides(1, 6, 0, second.replace("%", "6")), 0, NONE);
        duel("not the sixth of the second", sides(1, 6, 0, second.replace("%", "7")), 1, 0);
        BreatheAsOne x = sides(6, 0, 0, first.replace("%", "6"));
        x.be(0, 1);
        x.by(Checks.text(x, "breath asleep*(chest-6);holds air>=0-5;"));
        duel("who sleeps already isn't one of these", x, 1, 5);
        c.sentence(35, "the PERSON to begin with: the lowest by which it does");
        duel("the first", sides(3, 0, 0, "breath 1-asleep;"), 1, 0);
        duel("the second", sides(3, 0, 0, "breath asleep*(chest-2);"), 1, 1);
        duel("the third", sides(3, 0, 0, "breath asleep*(chest-3);"), 1, 2);
        duel("NONE: none", sides(3, 0, 0, "breath asleep*(chest-4);"), 0, NONE);
    }

    private static void duelOthers() {
        c.sentence(35, "two unlike BLOCKS about a NOTE .. -2 for others");
        for (boolean begin : new boolean[] {false, true}) {
            for (int block : new int[] {LEAST, -1, 4, MOST}) {
                Twins.idle(c, "duel(" + block + ", 0, 0)", Halls.BUSY, -2, x -> x.duel(block, 0, 0, begin));
                Twins.idle(c, "duel(0, " + block + ", 0)", Halls.BUSY, -2, x -> x.duel(0, block, 0, begin));
                Twins.idle(c, "duel(" + block + " twice)", Halls.BUSY, -2, x -> x.duel(block, block, 0, begin));
            }
            for (int block = 0; block < 4; block++) {
                int like = block;
                Twins.idle(c, "duel of like ones", Halls.BUSY, -2, x -> x.duel(like, like, 0, begin));
                c.due("of unlike ones", Halls.busy().duel(block, 3 - block, 0, begin) > -2, true);
            }
            for (int note : new int[] {LEAST, -1, 2, 12, MOST}) {
                Twins.idle(c, "duel(0, 1, " + note + ")", Halls.BUSY, -2, x -> x.duel(0, 1, note, begin));
            }
            Twins.idle(c, "duel(0, 1, 12)", Halls.FULL, -2, x -> x.duel(0, 1, 12, begin));
            Twins.idle(c, "duel(0, 1, 0)", Halls.NEW, -2, x -> x.duel(0, 1, 0, begin));
            Twins.onlyAsks(c, "duel(3, 0, 11)", Halls.FULL, x -> x.duel(3, 0, 11, begin));
            Twins.onlyAsks(c, "duel(0, 1, 1)", Halls.BUSY, x -> x.duel(0, 1, 1, begin));
        }
    }

    private static void beside() {
        c.sentence(36, "how many there are .. -2 if there are 8");
        BreatheAsOne x = Halls.row(10, "");
        for (int i = 1; i <= 8; i++) {
            c.due("a wrong one isn't told", x.beside(0, 0), -2);
            c.due("beside(0, 9)", x.beside(0, 9), i);
        }
        c.due("the ninth", x.beside(1, 2), -2);
        c.due("TOLD beside", x.about(9), 8);
        Twins.idle(c, "the ninth", Halls.FULL, -2, y -> y.beside(0, 2));
        c.sentence(36, "one NONE: none any more");
        for (int other : new int[] {LEAST, -1, 0, 10, MOST}) {
            BreatheAsOne y = Halls.full();
            c.due("beside(NONE, " + other + ")", y.beside(NONE, other), 0);
            c.due("TOLD beside", y.about(9), 0);
            c.due("nothing is known", y.chairs(7, NONE, 0), 6);
            c.due("the next one is the first", y.beside(0, 1), 1);
        }
        Twins.idle(c, "none there were", Halls.NEW, 0, y -> y.beside(NONE, 0));
        c.sentence(36, "-2 for others (unlike ones)");
        for (int other : new int[] {LEAST, -2, -1, 0, 4, 10, MOST}) {
            Twins.idle(c, "beside(0, " + other + ")", Halls.BUSY, -2, y -> y.beside(0, other));
        }
        for (int one : new int[] {LEAST, -2, 4, 10, MOST}) {
            Twins.idle(c, "beside(" + one + ", 0)", Halls.BUSY, -2, y -> y.beside(one, 0));
        }
        c.due("on no SEAT, too", Halls.busy().beside(0, 3), 3);
        c.due("it is no STEP", x.about(7), 10);
    }

    private static void chairs() {
        c.sentence(37, "SEATINGS of a set of 1 to 5 PEOPLE on SEATS 0 .. n - 1");
        BreatheAsOne x = Halls.row(10, "");
        int[] ways = {1, 1, 2, 6, 24, 120};
        for (int n = 1; n <= 5; n++) {
            int set = (1 << n) - 1 << 10 - n;
            c.due(n + " people", x.chairs(set, NONE, 0), ways[n]);
            for (int seat = 0; seat < n; seat++) c.due(n + " people, one on " + seat, x.chairs(set, 9, seat), ways[n] / n);
        }
        Twins.idle(c, "none", Halls.FULL, NONE, y -> y.chairs(0, NONE, 0));
        Twins.idle(c, "six", Halls.FULL, NONE, y -> y.chairs(63, NONE, 0));
        Twins.idle(c, "six with one", Halls.FULL, NONE, y -> y.chairs(63, 0, 0));
        Twins.idle(c, "ten", Halls.FULL, NONE, y -> y.chairs(1023, NONE, 0));
        c.sentence(37, "by which all that was TOLD of two of these is so (SEATS one apart)");
        x.beside(5, 9);
        c.due("of one of the set alone", x.chairs(0x1f0 ^ 1 << 5, NONE, 0), 24);
        c.due("two of three", x.chairs(1 << 5 | 1 << 9 | 1, NONE, 0), 4);
        c.due("the third is never between", x.chairs(1 << 5 | 1 << 9 | 1, 0, 1), 0);
        c.due("two of two", x.chairs(1 << 5 | 1 << 9, NONE, 0), 2);
        c.due("two of five", x.chairs(1 << 5 | 1 << 9 | 7, NONE, 0), 48);
        c.due("on the first of five", x.chairs(1 << 5 | 1 << 9 | 7, 9, 0), 6);
        c.due("in the middle of five", x.chairs(1 << 5 | 1 << 9 | 7, 9, 2), 12);
        x.beside(9, 5);
        c.due("told twice", x.chairs(1 << 5 | 1 << 9 | 1, NONE, 0), 4);
        x.beside(5, 0);
        c.due("5 is between", x.chairs(1 << 5 | 1 << 9 | 1, 5, 1), 2);
        x.beside(9, 0);
        c.due("there is no ring", x.chairs(1 << 5 | 1 << 9 | 1, NONE, 0), 0);
    }

    private static void chairsOthers() {
        c.sentence(37, "NONE for others");
        for (int set : new int[] {LEAST, -1, 16, 1 << 10, 1 << 30, LEAST + 1}) {
            Twins.idle(c, "chairs(" + set + ", NONE, 0)", Halls.BUSY, NONE, x -> x.chairs(set, NONE, 0));
        }
        Twins.idle(c, "chairs(1 << 10, NONE, 0)", Halls.FULL, NONE, x -> x.chairs(1 << 10, NONE, 0));
        for (int person : new int[] {LEAST, -2, 0, 3, 4, 10, MOST}) {
            Twins.idle(c, "chairs(6, " + person + ", 0)", Halls.BUSY, NONE, x -> x.chairs(6, person, 0));
        }
        for (int seat : new int[] {LEAST, -1, 2, 3, 9, MOST}) {
            Twins.idle(c, "chairs(6, 1, " + seat + ")", Halls.BUSY, NONE, x -> x.chairs(6, 1, seat));
        }
        for (int seat : new int[] {-1, 5}) {
            Twins.idle(c, "chairs(31, 0, " + seat + ")", Halls.FULL, NONE, x -> x.chairs(31, 0, seat));
        }
        Twins.onlyAsks(c, "chairs(31, 4, 4)", Halls.FULL, x -> x.chairs(31, 4, 4));
        Twins.idle(c, "chairs(1, NONE, 0)", Halls.NEW, NONE, x -> x.chairs(1, NONE, 0));
    }

    private static void whoseLaw() {
        c.sentence(38, "TEXTS (bits) by whose holds just a told set of NOTES FALLS");
        BreatheAsOne x = Halls.row(1, "");
        for (int i = 0; i < 12; i++) x.note(i, i == 11 ? 99 : 0);
        c.due("no TEXTS", x.whoseLaw(0), 0);
        Checks.text(x, "holds note<11;");
        Checks.text(x, "holds 1=1;");
        Checks.text(x, "holds 1=2;");
        Checks.text(x, "holds note<11 and beat>=0;breath 9;");
        c.due("the last alone", x.whoseLaw(2048), 9);
        c.due("none", x.whoseLaw(0), 2);
        c.due("all", x.whoseLaw(4095), 4);
        c.due("all but one", x.whoseLaw(4094), 0);
        BreatheAsOne none = new BreatheAsOne();
        for (int i = 0; i < 4; i++) Checks.text(none, "");
        c.due("without NOTES by all", none.whoseLaw(0), 15);
        c.sentence(38, "breath as THE TEXT says");
        BreatheAsOne y = Halls.row(2, "breath 3;holds air=6;");
        Checks.text(y, "breath 1;holds air=2;");
        y.note(0, 0);
        c.due("by the first", y.whoseLaw(0), 1);
        y.by(1);
        c.due("by the second", y.whoseLaw(0), 2);
        y.by(NONE);
        c.due("by none: 1 each", y.whoseLaw(0), 2);
        c.sentence(38, "NONE for others");
        for (int notes : new int[] {LEAST, -1, 4, 4096, MOST}) {
            Twins.idle(c, "whoseLaw(" + notes + ")", Halls.BUSY, NONE, z -> z.whoseLaw(notes));
        }
        Twins.idle(c, "whoseLaw(4096)", Halls.FULL, NONE, z -> z.whoseLaw(4096));
        Twins.onlyAsks(c, "whoseLaw(4095)", Halls.FULL, z -> z.whoseLaw(4095));
        Twins.idle(c, "whoseLaw(1)", Halls.NEW, NONE, z -> z.whoseLaw(1));
    }

    private static void seen() {
        c.sentence(39, "how many there are .. -2 if there are 8");
        BreatheAsOne x = Halls.row(10, "");
        for (int i = 1; i <= 8; i++) {
            c.due("a wrong one isn't kept", x.seen(0, 0, 2), -2);
            c.due("seen(9, 9999, 0)", x.seen(9, 9999, 0), i);
        }
        c.due("the ninth", x.seen(0, 0, 0), -2);
        c.due("SEEN", x.about(10), 8);
        Twins.idle(c, "the ninth", Halls.FULL, -2, y -> y.seen(0, 0, 0));
        c.sentence(39, "person NONE: none any more");
        for (int other : new int[] {LEAST, -2, 0, 10000, MOST}) {
            BreatheAsOne y = Halls.full();
            c.due("seen(NONE, ..)", y.seen(NONE, other, other), 0);
            c.due("SEEN", y.about(10), 0);
            c.due("nothing is known", y.starts(0), ALL_STARTS);
            c.due("the next one is the first", y.seen(0, 0, 0), 1);
        }
        Twins.idle(c, "none there were", Halls.NEW, 0, y -> y.seen(NONE, 0, 0));
        c.sentence(39, "-2 for others: a PERSON");
        for (int person : new int[] {LEAST, -2, 4, 10, MOST}) {
            Twins.idle(c, "seen(" + person + ", 0, 0)", Halls.BUSY, -2, y -> y.seen(person, 0, 0));
        }
        c.sentence(39, "-2 for others: at a BEAT");
        for (int beat : new int[] {LEAST, -1, 10000, MOST}) {
            Twins.idle(c, "seen(0, " + beat + ", 0)", Halls.BUSY, -2, y -> y.seen(0, beat, 0));
        }
        for (int beat : new int[] {0, 9999}) c.due("seen(0, " + beat + ", 0)", Halls.busy().seen(0, beat, 0), 3);
        c.sentence(39, "in (1), out (-1) or neither (0)");
        for (int how : new int[] {LEAST, -2, 2, MOST}) {
            Twins.idle(c, "seen(0, 0, " + how + ")", Halls.BUSY, -2, y -> y.seen(0, 0, how));
        }
        for (int how = -1; how <= 1; how++) c.due("seen(0, 0, " + how + ")", Halls.busy().seen(0, 0, how), 3);
        c.due("it is no STEP", x.about(7), 10);
    }

    private static void starts() {
        c.sentence(40, "STARTS (bits of 0 .. 17) by which all that was SEEN of it is so");
        c.due("nothing SEEN", Halls.row(1, "").starts(0), ALL_STARTS);
        for (int start : new int[] {0, 1, 16, 17}) {
            BreatheAsOne x = Halls.row(1, "breath time-" + start + ";");
            x.seen(0, 0, 0);
            c.due("START " + start + " alone", x.starts(0), 1 << start);
        }
        BreatheAsOne none = Halls.row(1, "breath time-18;");
        none.seen(0, 0, 0);
        c.due("18 isn't one", none.starts(0), 0);
        BreatheAsOne x = Halls.row(2, "breath time-9;");
        x.seen(0, 0, 1);
        c.due("in: 10 .. 17", x.starts(0), 0x3fc00);
        c.due("of another one nothing", x.starts(1), ALL_STARTS);
        x.seen(NONE, 0, 0);
        x.seen(0, 0, -1);
        c.due("out: 0 .. 8", x.starts(0), 0x1ff);
        x.seen(0, 8, 1);
        c.due("and in at 8: 2 .. 8", x.starts(0), 0x1fc);
        x.seen(0, 8, -1);
        c.due("both can't be", x.starts(0), 0);
        x.seen(1, 0, -1);
        c.due("of the other one", x.starts(1), 0x1ff);
        x.seen(NONE, 0, 0);
        x.seen(1, 0, -1);
        c.due("of the other one alone", x.starts(1), 0x1ff);
        c.due("so of this one nothing", x.starts(0), ALL_STARTS);
        c.sentence(40, "its SEAT, how it is as now");
        BreatheAsOne y = Halls.row(1, "");
        y.seen(0, 0, 0);
        c.due("it breathes", y.starts(0), 0);
        y.sit(0, NONE);
        c.due("on no SEAT neither", y.starts(0), ALL_STARTS);
        y.sit(0, 0);
        y.be(0, 2);
        c.due("HOLDS", y.starts(0), ALL_STARTS);
        y.be(0, 0);
        y.cough(0);
        c.due("COUGHS at that BEAT", y.starts(0), ALL_STARTS);
        c.sentence(40, "NONE for others");
        for (int person : new int[] {LEAST, -1, 4, 10, MOST}) {
            Twins.idle(c, "starts(" + person + ")", Halls.BUSY, NONE, z -> z.starts(person));
        }
        Twins.idle(c, "starts(10)", Halls.FULL, NONE, z -> z.starts(10));
        Twins.idle(c, "starts(0)", Halls.NEW, NONE, z -> z.starts(0));
        Twins.onlyAsks(c, "starts(9)", Halls.FULL, z -> z.starts(9));
    }

    /** Each kind of change there is. */
    private static void upset(BreatheAsOne x) {
        x.seat(3, 3);
        x.person(9, 9, 9);
        x.note(9, 9);
        x.by(NONE);
        x.sit(0, NONE);
        x.be(1, 2);
        x.usher(3, !((x.about(8) & 8) != 0));
        x.beat(5);
        x.cough(1);
        x.season(77, 40);
        x.change(1, 2);
        for (int i = 0; i < 3; i++) x.undo();
        x.beside(NONE, 0);
        x.beside(1, 3);
        x.beside(3, 0);
        x.seen(NONE, 0, 0);
        x.seen(2, 1, 1);
        x.season(78, 9);
    }

    private static void image() {
        c.sentence(41, "THE IMAGE is as all is now: BEAT");
        c.due("of a new one", new BreatheAsOne().image(), 0);
        BreatheAsOne last = new BreatheAsOne();
        Halls.goTo(last, 9999);
        c.due("at 9999", last.image(), 9999);
        c.due("it is no STEP", last.about(7), 11);
        c.sentence(42, "BACK to THE IMAGE: BEAT");
        for (Twins.Maker maker : new Twins.Maker[] {Halls.NEW, Halls.BUSY, Halls.FULL}) {
            int beat = maker.make().about(3);
            Twins.Maker kept = () -> {
                BreatheAsOne x = maker.make();
                x.image();
                return x;
            };
            Twins.idle(c, "upset and back", kept, beat, x -> {
                upset(x);
                return x.back();
            });
            c.sentence(42, "it stays");
            Twins.idle(c, "twice", kept, beat, x -> {
                upset(x);
                x.back();
                upset(x);
                return x.back();
            });
        }
        BreatheAsOne coughs = Halls.row(3, "passes 0;");
        coughs.cough(1);
        coughs.image();
        coughs.undo();
        coughs.beat(1);
        coughs.cough(2);
        coughs.cough(0);
        coughs.back();
        c.due("COUGHS", coughs.coughs(NONE, 0), 1);
        c.due("who", coughs.coughs(0, 0), 1);
        c.due("when", coughs.coughs(0, 1), 0);
        BreatheAsOne two = new BreatheAsOne();
        two.beat(1);
        two.image();
        two.beat(1);
        two.image();
        two.beat(1);
        c.due("the latest image", two.back(), 2);
    }

    private static void imageAside() {
        c.sentence(41, "all as it is, but the tape and the latest FAULT");
        BreatheAsOne x = Halls.busy();
        c.due("back()", x.back(), 0);
        c.due("bytes of the tape", x.about(11), 7);
        c.due("FAULT", x.fault(0), 1);
        c.due("its place", x.fault(1), 0);
        c.due("the tape is read", x.text(), 1);
        c.due("FAULT", x.fault(0), 0);
        x.back();
        c.due("TEXTS", x.about(5), 1);
        c.due("the tape stays empty", x.about(11), 0);
        c.due("no FAULT as it was latest", x.fault(0), 0);
        c.due("and no place", x.fault(1), NONE);
        c.due("a TEXT since is gone", x.played(1), -2);
        BreatheAsOne y = new BreatheAsOne();
        y.image();
        Checks.text(y, "bad");
        y.back();
        c.due("a FAULT read since stays", y.fault(0), 1);
    }

    private static void about() {
        c.sentence(43, "0 SEATS, 1 PEOPLE, .. 11 bytes of the tape");
        BreatheAsOne x = Halls.full();
        int[] full = {10, 10, 12, 3, Halls.drawn(71, 18), 4, 1, 30, 13, 8, 8, 300};
        for (int i = 0; i < 12; i++) c.due("about(" + i + ") of the full one", x.about(i), full[i]);
        BreatheAsOne y = Halls.busy();
        int[] busy = {4, 4, 2, 2, Halls.drawn(71, 4), 2, 1, 8, 2, 2, 2, 7};
        for (int i = 0; i < 12; i++) c.due("about(" + i + ") of the busy one", y.about(i), busy[i]);
        c.sentence(43, "-2 for others");
        for (int what : new int[] {LEAST, -2, -1, 12, 13, MOST}) {
            Twins.idle(c, "about(" + what + ")", Halls.FULL, -2, z -> z.about(what));
        }
        for (int what = 0; what < 12; what++) {
            int asked = what;
            Twins.onlyAsks(c, "about(" + what + ")", Halls.BUSY, z -> z.about(asked));
        }
    }

    public static void main(String[] args) {
        duelEnds();
        duelFive();
        duelOthers();
        beside();
        chairs();
        chairsOthers();
        whoseLaw();
        seen();
        starts();
        image();
        imageAside();
        about();
        c.finish();
    }
}
