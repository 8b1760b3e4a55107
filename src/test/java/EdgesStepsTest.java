/** Promises 10 to 18: each sentence that names an edge of what is done by hand, by scripts and by seasons, and taken back. */
public final class EdgesStepsTest {
    private static final int NONE = BreatheAsOne.NONE;
    private static final int LEAST = Integer.MIN_VALUE;
    private static final int MOST = Integer.MAX_VALUE;
    private static final Checks c = new Checks();

    private static long bit(boolean so) { return so ? 1 : 0; }

    private static void sits() {
        c.sentence(10, "SITS: a PERSON on a SEAT that nobody has: true");
        BreatheAsOne x = new BreatheAsOne();
        for (int i = 0; i < 10; i++) {
            x.seat(0, 0);
            x.person(1, 1, 0);
        }
        c.due("the last on the last", x.sit(9, 9), true);
        c.due("the first on the first", x.sit(0, 0), true);
        c.due("who sits there", x.ofSeat(9, 2), 9);
        c.due("to another one", x.sit(9, 5), true);
        c.due("the SEAT it had is free", x.ofSeat(9, 2), NONE);
        c.due("for somebody else", x.sit(0, 9), true);
        c.due("STEPS", x.about(7), 4);
        c.sentence(10, "seat NONE: gets up");
        c.due("sit(0, NONE)", x.sit(0, NONE), true);
        c.due("SEAT", x.of(0, 3), NONE);
        c.due("STEPS", x.about(7), 5);
    }

    private static void sitsNot() {
        c.sentence(10, "False, if somebody has it");
        Twins.idle(c, "sit(0, 1)", Halls.BUSY, 0, x -> bit(x.sit(0, 1)));
        Twins.idle(c, "sit(3, 0)", Halls.BUSY, 0, x -> bit(x.sit(3, 0)));
        Twins.idle(c, "sit(0, 0)", Halls.FULL, 0, x -> bit(x.sit(0, 0)));
        c.sentence(10, "False, if it is so");
        Twins.idle(c, "sit(0, 0)", Halls.BUSY, 0, x -> bit(x.sit(0, 0)));
        Twins.idle(c, "sit(3, NONE)", Halls.BUSY, 0, x -> bit(x.sit(3, NONE)));
        c.sentence(10, "False for others");
        for (int seat : new int[] {LEAST, -2, 4, 10, MOST}) {
            Twins.idle(c, "sit(3, " + seat + ")", Halls.BUSY, 0, x -> bit(x.sit(3, seat)));
        }
        for (int person : new int[] {LEAST, -2, -1, 4, 10, MOST}) {
            Twins.idle(c, "sit(" + person + ", 3)", Halls.BUSY, 0, x -> bit(x.sit(person, 3)));
            Twins.idle(c, "sit(" + person + ", NONE)", Halls.BUSY, 0, x -> bit(x.sit(person, NONE)));
        }
        Twins.idle(c, "sit(0, 10)", Halls.FULL, 0, x -> bit(x.sit(0, 10)));
        Twins.idle(c, "sit(10, NONE)", Halls.FULL, 0, x -> bit(x.sit(10, NONE)));
        Twins.idle(c, "sit(0, 0)", Halls.NEW, 0, x -> bit(x.sit(0, 0)));
    }

    private static void changes() {
        c.sentence(11, "CHANGED: two who sit have each other's SEAT: true");
        BreatheAsOne x = Halls.row(10, "");
        c.due("change(0, 9)", x.change(0, 9), true);
        c.due("SEAT of 0", x.of(0, 3), 9);
        c.due("SEAT of 9", x.of(9, 3), 0);
        c.due("change(9, 8)", x.change(9, 8), true);
        c.due("who sits on 0", x.ofSeat(0, 2), 8);
        c.due("one STEP each", x.about(7), 12);
        c.sentence(11, "False if one of both has no SEAT");
        Twins.idle(c, "change(0, 3)", Halls.BUSY, 0, y -> bit(y.change(0, 3)));
        Twins.idle(c, "change(3, 0)", Halls.BUSY, 0, y -> bit(y.change(3, 0)));
        c.sentence(11, "False for others");
        for (int other : new int[] {LEAST, -2, -1, 0, 4, 10, MOST}) {
            Twins.idle(c, "change(0, " + other + ")", Halls.BUSY, 0, y -> bit(y.change(0, other)));
            Twins.idle(c, "change(" + other + ", 0)", Halls.BUSY, 0, y -> bit(y.change(other, 0)));
        }
        Twins.idle(c, "change(0, 10)", Halls.FULL, 0, y -> bit(y.change(0, 10)));
        Twins.idle(c, "change(10, 0)", Halls.FULL, 0, y -> bit(y.change(10, 0)));
        Twins.idle(c, "change(0, 1)", Halls.NEW, 0, y -> bit(y.change(0, 1)));
    }

    private static void is() {
        c.sentence(12, "IS: a PERSON is AWAKE (0), ASLEEP (1) or HOLDS (2): true");
        BreatheAsOne x = Halls.row(10, "");
        int steps = 10;
        for (int how : new int[] {1, 2, 0, 2, 1, 0}) {
            c.due("be(9, " + how + ")", x.be(9, how), true);
            c.due("how it IS", x.of(9, 4), how);
            c.due("STEPS", x.about(7), ++steps);
        }
        c.sentence(12, "False for others");
        for (int how : new int[] {LEAST, -1, 3, MOST}) {
            Twins.idle(c, "be(0, " + how + ")", Halls.BUSY, 0, y -> bit(y.be(0, how)));
        }
        for (int person : new int[] {LEAST, -1, 4, 10, MOST}) {
            Twins.idle(c, "be(" + person + ", 1)", Halls.BUSY, 0, y -> bit(y.be(person, 1)));
        }
        Twins.idle(c, "be(10, 1)", Halls.FULL, 0, y -> bit(y.be(10, 1)));
        Twins.idle(c, "be(0, 1)", Halls.NEW, 0, y -> bit(y.be(0, 1)));
        c.sentence(12, "False if it is so");
        Twins.idle(c, "be(0, 0)", Halls.BUSY, 0, y -> bit(y.be(0, 0)));
        Twins.idle(c, "be(2, 1)", Halls.BUSY, 0, y -> bit(y.be(2, 1)));
        Twins.idle(c, "be(3, 2)", Halls.FULL, 0, y -> bit(y.be(3, 2)));
    }

    private static void ushers() {
        c.sentence(13, "USHER: one is in a BLOCK, or gone: true");
        BreatheAsOne x = new BreatheAsOne();
        for (int block = 0; block < 4; block++) c.due("comes", x.usher(block, true), true);
        c.due("USHERS", x.about(8), 15);
        for (int block = 0; block < 4; block++) {
            c.due("goes", x.usher(block, false), true);
            c.due("USHERS", x.about(8), 15 & ~0 << block + 1);
        }
        c.due("STEPS", x.about(7), 8);
        c.sentence(13, "False for others");
        for (int block : new int[] {LEAST, -1, 4, 31, 32, 33, MOST}) {
            Twins.idle(c, "usher(" + block + ", true)", Halls.BUSY, 0, y -> bit(y.usher(block, true)));
            Twins.idle(c, "usher(" + block + ", false)", Halls.FULL, 0, y -> bit(y.usher(block, false)));
        }
        c.sentence(13, "False if it is so");
        Twins.idle(c, "usher(1, true)", Halls.BUSY, 0, y -> bit(y.usher(1, true)));
        Twins.idle(c, "usher(0, false)", Halls.BUSY, 0, y -> bit(y.usher(0, false)));
        Twins.idle(c, "usher(3, true)", Halls.FULL, 0, y -> bit(y.usher(3, true)));
        Twins.idle(c, "usher(1, false)", Halls.FULL, 0, y -> bit(y.usher(1, false)));
    }

    private static void coughsNot() {
        c.sentence(14, "NONE, if it does already");
        Twins.idle(c, "cough(0)", Halls.BUSY, NONE, x -> x.cough(0));
        BreatheAsOne x = Halls.row(3, "passes 10;");
        x.cough(0);
        for (int i = 0; i < 3; i++) c.due("one to whom it came", x.cough(i), NONE);
        x.beat(1);
        c.due("at another BEAT", x.cough(2), 3);
        c.sentence(14, "NONE for others");
        for (int person : new int[] {LEAST, -1, 4, 10, MOST}) {
            Twins.idle(c, "cough(" + person + ")", Halls.BUSY, NONE, y -> y.cough(person));
        }
        Twins.idle(c, "cough(10)", Halls.FULL, NONE, y -> y.cough(10));
        Twins.idle(c, "cough(0)", Halls.NEW, NONE, y -> y.cough(0));
    }

    /** The answer, X by so many draws, and who coughs in which order. */
    private static void coughed(BreatheAsOne x, int person, int draws, int... who) {
        int before = x.coughs(NONE, 0);
        int drawn = x.about(4);
        c.due("cough(" + person + ")", x.cough(person), who.length);
        c.due("X after " + draws + " draws", x.about(4), Halls.drawn(drawn, draws));
        for (int i = 0; i < who.length; i++) c.due("COUGH " + i, x.coughs(before + i, 0), who[i]);
        c.due("COUGHS", x.coughs(NONE, 0), before + who.length);
    }

    private static void passedOn() {
        c.sentence(14, "by SEATS upwards from its own, then downwards likewise");
        coughed(Halls.row(10, "passes 10;"), 0, 9, 0, 1, 2, 3, 4, 5, 6, 7, 8, 9);
        coughed(Halls.row(10, "passes 10;"), 9, 9, 9, 8, 7, 6, 5, 4, 3, 2, 1, 0);
        coughed(Halls.row(10, "passes 10;"), 4, 9, 4, 5, 6, 7, 8, 9, 3, 2, 1, 0);
        coughed(Halls.row(3, "passes 10;"), 2, 2, 2, 1, 0);
        coughed(Halls.row(1, "passes 10;"), 0, 0, 0);
        coughed(Halls.row(10, "passes 0;"), 0, 1, 0);
        coughed(Halls.row(10, "passes 0;"), 9, 1, 9);
        coughed(Halls.row(10, "passes 0;"), 5, 2, 5);
        c.sentence(14, "to the next SEAT, if somebody sits there");
        BreatheAsOne x = Halls.row(5, "passes 10;");
        x.sit(1, NONE);
        x.sit(3, NONE);
        coughed(x, 2, 0, 2);
        x.seat(0, 0);
        x.sit(3, 5);
        coughed(x, 4, 1, 4, 3);
        c.sentence(14, "from its own (if it has one)");
        coughed(x, 1, 0, 1);
    }

    private static void drawsByTen() {
        c.sentence(14, "a draw by 10 below passes: it COUGHS, too; else it ends");
        // The first draws are 71, 19840 and 16802: 1, 0 and 2.
        coughed(Halls.row(2, "passes 1;"), 0, 1, 0);
        coughed(Halls.row(2, "passes 2;"), 0, 1, 0, 1);
        coughed(Halls.row(3, "passes 1;"), 1, 2, 1, 0);
        coughed(Halls.row(3, "passes 0;"), 1, 2, 1);
        coughed(Halls.row(4, "passes 2;"), 0, 3, 0, 1, 2);
        coughed(Halls.row(4, "passes 3;"), 0, 3, 0, 1, 2, 3);
        coughed(Halls.row(4, ""), 0, 3, 0, 1, 2, 3);
        c.sentence(14, "X being (X * 277 + 173) mod 30271 then");
        // 71 * 277 + 173 is 19840; 110 * 277 + 173 is 30643, by 30271 that is 372.
        BreatheAsOne x = Halls.row(2, "passes 0;");
        x.cough(0);
        c.due("X", x.about(4), 19840);
        x.season(13, 1);
        c.due("X", x.about(4), 372);
        x.season(9999, 1);
        c.due("X", x.about(4), 4484);
    }

    /** A season of one draw brings an usher or a beat, and X to where the wanted draw is the next. */
    private static void allDraws() {
        c.sentence(14, "a draw by 10 (X mod 10)");
        for (int draw = 0; draw < 10; draw++) {
            int seed = 0;
            while (Halls.drawn(seed * 3 + 71, 1) % 10 != draw) seed++;
            for (int passes = 0; passes <= 10; passes++) {
                BreatheAsOne x = Halls.row(2, "passes " + passes + ";");
                x.season(seed, 1);
                c.due("a draw of " + draw + " by passes " + passes, x.cough(0), draw < passes ? 2 : 1);
            }
        }
    }

    private static void ofWhoCoughs() {
        c.sentence(14, "passes (asked of who COUGHS, for the one beside)");
        BreatheAsOne x = new BreatheAsOne();
        for (int lag : new int[] {9, 9, 0, 9}) x.seat(0, lag);
        for (int i = 0; i < 4; i++) {
            x.person(1, 1, 0);
            x.sit(i, i);
        }
        x.by(Checks.text(x, "passes lag*9;"));
        coughed(x, 0, 3, 0, 1, 2);
        x.beat(1);
        coughed(x, 3, 2, 3, 2);
        c.sentence(14, "it COUGHS, too (if it doesn't yet), and it goes on from there");
        x.beat(1);
        x.sit(1, NONE);
        coughed(x, 1, 0, 1);
        x.sit(1, 1);
        coughed(x, 0, 3, 0, 2);
    }

    private static void twentyCoughs() {
        c.sentence(14, "COUGHS beyond 20 aren't kept (but passed on)");
        BreatheAsOne x = Halls.row(10, "passes 10;breath 1;");
        coughed(x, 0, 9, 0, 1, 2, 3, 4, 5, 6, 7, 8, 9);
        x.beat(1);
        x.sit(9, NONE);
        coughed(x, 8, 8, 8, 7, 6, 5, 4, 3, 2, 1, 0);
        x.beat(1);
        coughed(x, 3, 8, 3);
        c.due("20 are kept", x.coughs(NONE, 0), 20);
        c.due("the last is kept", x.coughs(19, 0), 3);
        c.due("there is no 21st", x.coughs(20, 0), -2);
        c.due("it does already", x.cough(3), NONE);
        coughed(x, 4, 8);
        c.due("one that isn't kept is a STEP", x.about(7), 10 + 7);
        c.due("4 doesn't cough", x.of(4, 6), 1);
        c.due("3 does", x.of(3, 6), 0);
        coughed(x, 4, 8);
        x.undo();
        x.undo();
        c.due("taken back: 20 yet", x.coughs(NONE, 0), 20);
        x.undo();
        c.due("taken back: 19", x.coughs(NONE, 0), 19);
    }

    private static void beats() {
        c.sentence(15, "PASSED (1 .. 999): BEAT");
        BreatheAsOne x = new BreatheAsOne();
        c.due("beat(1)", x.beat(1), 1);
        c.due("beat(999)", x.beat(999), 1000);
        c.due("STEPS", x.about(7), 2);
        c.sentence(15, "NONE for others");
        for (int n : new int[] {LEAST, -999, -1, 0, 1000, 9999, MOST - 1, MOST}) {
            Twins.idle(c, "beat(" + n + ")", Halls.BUSY, NONE, y -> y.beat(n));
        }
        c.sentence(15, "NONE beyond 9999");
        Twins.Maker late = () -> {
            BreatheAsOne y = Halls.busy();
            Halls.goTo(y, 9001);
            return y;
        };
        Twins.idle(c, "beat(999) at 9001", late, NONE, y -> y.beat(999));
        c.due("beat(998) at 9001", late.make().beat(998), 9999);
        Twins.Maker last = () -> {
            BreatheAsOne y = Halls.busy();
            Halls.goTo(y, 9999);
            return y;
        };
        Twins.idle(c, "beat(1) at 9999", last, NONE, y -> y.beat(1));
    }

    private static void plays() {
        c.sentence(16, "NONE: all is done");
        BreatheAsOne x = new BreatheAsOne();
        c.due("an empty one", x.played(Checks.text(x, "")), NONE);
        Twins.idle(c, "laws alone", () -> {
            BreatheAsOne y = Halls.busy();
            Checks.text(y, "breath 9;passes 1;holds 1=2;");
            return y;
        }, NONE, y -> y.played(2));
        Checks.text(x, "beat 1;".repeat(24));
        c.due("24 clauses", x.played(1), NONE);
        c.due("BEAT", x.about(3), 24);
        c.due("a STEP each", x.about(7), 24);
        x.played(1);
        c.due("30 STEPS at most", x.about(7), 30);
        c.sentence(16, "-2 for others");
        for (int text : new int[] {LEAST, -2, -1, 2, 4, MOST}) {
            Twins.idle(c, "played(" + text + ")", Halls.BUSY, -2, y -> y.played(text));
        }
        Twins.idle(c, "played(4)", Halls.FULL, -2, y -> y.played(4));
        Twins.idle(c, "played(0)", Halls.NEW, -2, y -> y.played(0));
    }

    private static void playsNumbers() {
        c.sentence(16, "its CLAUSES but laws, in their order, as by hand");
        BreatheAsOne x = new BreatheAsOne();
        Checks.text(x, "seat 3 lag 9;one 9 pulse 8 start 17;one 1 pulse 2 start 3;seat 0 lag 1;note 9999 high 99;note 0 high 1;");
        c.due("played", x.played(0), NONE);
        int[][] people = {{9, 8, 17}, {1, 2, 3}};
        for (int p = 0; p < 2; p++) for (int w = 0; w < 3; w++) c.due("of(" + p + ", " + w + ")", x.of(p, w), people[p][w]);
        int[][] seats = {{3, 9}, {0, 1}};
        for (int s = 0; s < 2; s++) for (int w = 0; w < 2; w++) c.due("ofSeat(" + s + ", " + w + ")", x.ofSeat(s, w), seats[s][w]);
        int[][] notes = {{9999, 99}, {0, 1}};
        for (int n = 0; n < 2; n++) for (int w = 0; w < 2; w++) c.due("ofNote(" + n + ", " + w + ")", x.ofNote(n, w), notes[n][w]);
        c.due("what is told is no STEP", x.about(7), 0);
        Checks.text(x, "sit 1 on 0;sit 0 on 1;hold 1;sleep 0;usher 3;beat 999;cough 1;");
        c.due("played", x.played(1), NONE);
        int[] due = {1, 0, 1, 2, 8, 999, 1};
        int[] got = {x.of(0, 3), x.of(1, 3), x.of(0, 4), x.of(1, 4), x.about(8), x.about(3), x.coughs(0, 0)};
        for (int i = 0; i < due.length; i++) c.due("clause " + i, got[i], due[i]);
        Checks.text(x, "wake 0;wake 1;");
        c.due("played", x.played(2), NONE);
        c.due("AWAKE", x.of(0, 4) + x.of(1, 4), 0);
        c.due("a STEP each", x.about(7), 9);
    }

    /** In a full hall at BEAT 9999 with person 0 awake, 1 asleep, 2 holding and coughing, an usher in block 0. */
    private static void cannotBe() {
        c.sentence(16, "one that can't be ends it: its number among all CLAUSES (from 0)");
        String[] never = {"seat 0 lag 0;", "one 1 pulse 1 start 0;", "note 0 high 0;", "sit 0 on 1;", "sit 0 on 0;", "wake 0;", "sleep 1;",
            "hold 2;", "usher 0;", "cough 2;", "beat 1;"};
        for (String clause : never) {
            Twins.Maker hall = () -> {
                BreatheAsOne x = Halls.row(10, "");
                for (int i = 0; i < 12; i++) x.note(0, 0);
                Halls.goTo(x, 9999);
                x.be(1, 1);
                x.be(2, 2);
                x.usher(0, true);
                x.cough(2);
                Checks.text(x, "breath 1;" + clause + "sleep 3;");
                return x;
            };
            Twins.idle(c, clause, hall, 1, x -> x.played(0));
        }
        BreatheAsOne x = new BreatheAsOne();
        x.person(1, 1, 0);
        x.seat(0, 0);
        String[] notThere = {"sit 1 on 0;", "sit 0 on 1;", "sleep 1;", "wake 1;", "hold 1;", "cough 1;"};
        for (String clause : notThere) {
            x.image();
            Checks.text(x, clause);
            c.due(clause, x.played(0), 0);
            x.back();
        }
        Checks.text(x, "beat 1;".repeat(23) + "wake 0;");
        c.due("the last of 24", x.played(0), 23);
        c.sentence(16, "what was done stays");
        c.due("BEAT", x.about(3), 23);
        c.due("STEPS", x.about(7), 23);
        c.due("the latest alone is taken back", x.undo(), 22);
        c.due("BEAT", x.about(3), 22);
    }

    private static void seasonBounds() {
        c.sentence(17, "SEED (0 .. 9999), NONE for others");
        for (int seed : new int[] {LEAST, -1, 10000, MOST}) {
            Twins.idle(c, "season(" + seed + ", 1)", Halls.BUSY, NONE, x -> x.season(seed, 1));
        }
        // 71 is 5 by 6: a beat; 30068 is 2 by 6 and 0 by 4: the usher of block 0.
        BreatheAsOne x = Halls.row(1, "");
        c.due("season(0, 1)", x.season(0, 1), 1);
        c.due("X", x.about(4), 19840);
        c.due("season(9999, 1)", x.season(9999, 1), 1);
        c.due("USHERS", x.about(8), 1);
        c.due("X", x.about(4), 4484);
        c.sentence(17, "n times (1 .. 40), NONE for others");
        for (int n : new int[] {LEAST, -1, 0, 41, MOST}) {
            Twins.idle(c, "season(0, " + n + ")", Halls.BUSY, NONE, y -> y.season(0, n));
        }
        for (int n : new int[] {1, 2, 39, 40}) {
            BreatheAsOne y = new BreatheAsOne();
            y.person(1, 1, 0);
            int beats = 0;
            for (int i = 0; i < n; i++) beats += Halls.drawn(71, i) % 6 > 3 ? 1 : 0;
            c.due("season(0, " + n + ")", y.season(0, n), beats);
            c.due("X, of one on no SEAT", y.about(4), Halls.drawn(71, n));
            c.sentence(17, "It is one STEP");
            c.due("STEPS", y.about(7), 1);
        }
    }

    private static void seasonWithout() {
        c.sentence(17, "NONE without PEOPLE");
        Twins.Maker noPeople = () -> {
            BreatheAsOne x = new BreatheAsOne();
            x.seat(0, 0);
            x.note(0, 0);
            return x;
        };
        Twins.idle(c, "season(0, 1)", noPeople, NONE, x -> x.season(0, 1));
        Twins.idle(c, "season(0, 40)", Halls.NEW, NONE, x -> x.season(0, 40));
        c.sentence(17, "Without SEATS nobody SITS");
        BreatheAsOne x = new BreatheAsOne();
        for (int i = 0; i < 10; i++) x.person(1, 1, 0);
        for (int seed = 0; seed < 20; seed++) x.season(seed, 40);
        for (int i = 0; i < 10; i++) c.due("SEAT", x.of(i, 3), NONE);
        c.sentence(17, "a BEAT goes by (9999 stays)");
        BreatheAsOne y = new BreatheAsOne();
        y.person(1, 1, 0);
        Halls.goTo(y, 9998);
        c.due("season(0, 1) at 9998", y.season(0, 1), 9999);
        c.due("season(0, 2) at 9999", y.season(0, 2), 9999);
        c.due("X goes on", y.about(4), Halls.drawn(71, 2));
        c.due("STEPS", y.about(7), 13);
        c.due("taken back", y.undo(), 12);
        c.due("BEAT", y.about(3), 9999);
        c.due("X as ahead of it", y.about(4), 19840);
    }

    /** The first seed whose second draw does this; by four people and three seats it falls on these. */
    private static int seedOf(int deed, int person, int seat) {
        for (int seed = 0; seed < 10000; seed++) {
            int x = Halls.drawn(seed * 3 + 71, 1);
            if (x % 6 == deed && x % 4 == person && (seat < 0 || x % 3 == seat)) return seed;
        }
        return NONE;
    }

    private static BreatheAsOne four() {
        BreatheAsOne x = new BreatheAsOne();
        for (int i = 0; i < 3; i++) x.seat(0, 0);
        for (int i = 0; i < 4; i++) x.person(1, 1, 0);
        return x;
    }

    private static void seasonDeeds() {
        c.sentence(17, "0 PERSON x mod how many there are SITS on SEAT x mod how many there are (if nobody has it)");
        // 0 by 6 is 0 by 3, so the seat is 0.
        for (int person = 0; person < 4; person += 2) {
            BreatheAsOne x = four();
            x.sit(person, 2);
            x.season(seedOf(0, person, 0), 2);
            c.due("SEAT", x.of(person, 3), 0);
            c.due("the SEAT it had", x.ofSeat(2, 2), NONE);
            x.season(seedOf(0, 2 - person, 0), 2);
            c.due("somebody has it", x.of(2 - person, 3), NONE);
            x.season(seedOf(0, person, 0), 2);
            c.due("it has it", x.of(person, 3), 0);
        }
        BreatheAsOne alone = new BreatheAsOne();
        alone.seat(0, 0);
        alone.person(1, 1, 0);
        alone.season(seedOf(0, 0, 0), 2);
        c.due("one PERSON, one SEAT", alone.of(0, 3), 0);
        c.sentence(17, "1 it IS x mod 3");
        BreatheAsOne x = four();
        for (int person = 1; person < 4; person += 2) {
            x.be(person, 2);
            x.season(seedOf(1, person, -1), 2);
            c.due("1 by 6 is 1 by 3", x.of(person, 4), 1);
            x.season(seedOf(1, person, -1), 2);
            c.due("it is so", x.of(person, 4), 1);
        }
        c.sentence(17, "2 the USHER of BLOCK x mod 4 comes, or goes");
        for (int seed = 3; seed < 6; seed += 2) {
            int block = (seed * 3 + 71) % 4;
            BreatheAsOne y = four();
            y.season(seed, 1);
            c.due("comes", y.about(8), 1 << block);
            y.season(seed, 1);
            c.due("goes", y.about(8), 0);
        }
        c.sentence(17, "3 it COUGHED (if it doesn't yet; as above, by draws)");
        for (int person = 1; person < 4; person += 2) {
            int seed = seedOf(3, person, -1);
            int beat = (seed * 3 + 71) % 6 > 3 ? 1 : 0;
            BreatheAsOne y = four();
            y.by(Checks.text(y, "passes 10;"));
            y.sit(person, 1);
            y.sit(0, 2);
            y.season(seed, 2);
            c.due("COUGHS", y.coughs(NONE, 0), 2);
            c.due("who", y.coughs(0, 0), person);
            c.due("and beside", y.coughs(1, 0), 0);
            c.due("when", y.coughs(1, 1), beat);
            c.due("X by a draw more", y.about(4), Halls.drawn(seed * 3 + 71, 3));
        }
        BreatheAsOne z = four();
        int seed = usherSeed();
        int who = Halls.drawn(seed * 3 + 71, 1) % 4;
        z.cough(who);
        z.season(seed, 2);
        c.due("it does already", z.coughs(NONE, 0), 1);
        c.due("no draw for it", z.about(4), Halls.drawn(seed * 3 + 71, 2));
        BreatheAsOne passing = Halls.row(4, "passes 0;");
        passing.cough(who);
        passing.by(Checks.text(passing, "passes 10;"));
        passing.season(seed, 2);
        c.due("it does already, so nothing is passed on", passing.coughs(NONE, 0), 1);
        c.due("and nothing drawn", passing.about(4), Halls.drawn(seed * 3 + 71, 2));
        BreatheAsOne many = Halls.row(10, "passes 10;");
        for (int i = 0; i < 2; i++) {
            many.cough(0);
            many.beat(1);
        }
        seed = usherSeed();
        c.due("a season's COUGH beyond 20", many.season(seed, 2), 2);
        c.due("isn't kept", many.coughs(NONE, 0), 20);
        c.due("but passed on", many.about(4), Halls.drawn(seed * 3 + 71, 2 + 9));
    }

    /** No beat goes by ahead of its cough. */
    private static int usherSeed() {
        int seed = 0;
        while ((seed * 3 + 71) % 6 != 2 || Halls.drawn(seed * 3 + 71, 1) % 6 != 3) seed++;
        return seed;
    }

    private static void undoNone() {
        c.sentence(18, "NONE: there is none");
        Twins.idle(c, "undo()", Halls.NEW, NONE, x -> x.undo());
        Twins.Maker told = () -> {
            BreatheAsOne x = new BreatheAsOne();
            x.seat(0, 0);
            x.person(1, 1, 0);
            x.person(1, 1, 0);
            x.note(0, 0);
            x.by(Checks.text(x, "breath 1;"));
            x.beside(0, 1);
            x.seen(0, 0, 0);
            x.image();
            Checks.tape(x, "beat 7;");
            return x;
        };
        Twins.idle(c, "undo() of what is no STEP", told, NONE, x -> x.undo());
        BreatheAsOne x = new BreatheAsOne();
        x.beat(1);
        c.due("undo()", x.undo(), 0);
        c.due("undo()", x.undo(), NONE);
    }

    private static void undoThirty() {
        c.sentence(18, "the latest 30 can be taken back, the latest first");
        for (int steps : new int[] {29, 30, 31, 60, 61, 100}) {
            BreatheAsOne x = new BreatheAsOne();
            for (int i = 0; i < steps; i++) x.beat(1);
            int kept = Math.min(30, steps);
            c.due("STEPS", x.about(7), kept);
            for (int i = 1; i <= kept; i++) {
                c.due("undo()", x.undo(), kept - i);
                c.due("BEAT", x.about(3), steps - i);
            }
            c.due("undo() beyond", x.undo(), NONE);
            c.due("BEAT", x.about(3), steps - kept);
            c.due("a STEP then", x.beat(5), steps - kept + 5);
            c.due("taken back", x.undo(), 0);
        }
    }

    private static void undoAll() {
        c.sentence(18, "SEATS of PEOPLE, how they are, USHERS, BEAT, COUGHS, X are as ahead of it");
        Twins.Call[] deeds = {x -> bit(x.sit(3, 3)), x -> bit(x.sit(0, NONE)), x -> bit(x.change(0, 2)), x -> bit(x.be(0, 2)),
            x -> bit(x.usher(1, false)), x -> bit(x.usher(3, true)), x -> x.cough(3), x -> x.beat(999),
            x -> x.season(1234, 40), x -> x.season(0, 1)};
        for (int i = 0; i < deeds.length; i++) {
            Twins.Call deed = deeds[i];
            int steps = Halls.busy().about(7);
            Twins.idle(c, "deed " + i + " taken back", Halls.BUSY, steps, x -> {
                deed.on(x);
                return x.undo();
            });
        }
        Twins.Maker row = () -> Halls.row(10, "passes 10;");
        Twins.idle(c, "ten COUGHS taken back", row, 10, x -> {
            x.cough(5);
            return x.undo();
        });
        c.sentence(18, "PEOPLE told since are on none, AWAKE");
        BreatheAsOne x = Halls.row(9, "");
        x.seat(0, 0);
        x.beat(1);
        x.person(1, 1, 0);
        x.sit(9, 9);
        x.be(9, 2);
        for (int i = 0; i < 2; i++) x.undo();
        x.season(0, 1);
        c.due("undo()", x.undo(), 10);
        c.due("PEOPLE stay", x.about(1), 10);
        x.sit(9, 9);
        x.image();
        x.be(9, 1);
        for (int i = 0; i < 2; i++) x.undo();
        c.due("undo of the beat ahead of it", x.undo(), 9);
        c.due("on none", x.of(9, 3), NONE);
        c.due("AWAKE", x.of(9, 4), 0);
        x.back();
        c.due("in THE IMAGE it sits", x.of(9, 3), 9);
    }

    public static void main(String[] args) {
        sits();
        sitsNot();
        changes();
        is();
        ushers();
        coughsNot();
        passedOn();
        drawsByTen();
        allDraws();
        ofWhoCoughs();
        twentyCoughs();
        beats();
        plays();
        playsNumbers();
        cannotBe();
        seasonBounds();
        seasonWithout();
        seasonDeeds();
        undoNone();
        undoThirty();
        undoAll();
        c.finish();
    }
}
