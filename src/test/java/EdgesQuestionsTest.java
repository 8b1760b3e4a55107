/** Promises 27 to 34: each sentence that names an edge of seating, ushers, shift, choir, draughts and air. */
public final class EdgesQuestionsTest {
    private static final int NONE = BreatheAsOne.NONE;
    private static final int NO_VALUE = -100000;
    private static final int LEAST = Integer.MIN_VALUE;
    private static final int MOST = Integer.MAX_VALUE;
    private static final Checks c = new Checks();

    /** Ten seats with the lags 0 to 9, ten people with the chests 1 to 9 and 9; nobody sits. */
    private static BreatheAsOne ten() {
        BreatheAsOne x = new BreatheAsOne();
        for (int i = 0; i < 10; i++) {
            x.seat(0, i);
            x.person(Math.min(9, i + 1), 1, 0);
        }
        return x;
    }

    /** Of the first five on the first five seats the air is -10 if they sit the other way round, and more in all other ways. */
    private static BreatheAsOne turned(String holds) {
        BreatheAsOne x = ten();
        x.note(0, 0);
        x.by(Checks.text(x, "breath (chest-3)*(-time-2);holds " + holds + ";"));
        return x;
    }

    private static void seatedSizes() {
        c.sentence(27, "a set of 1 to 5 PEOPLE on as many SEATS (a set)");
        BreatheAsOne x = ten();
        x.note(0, 0);
        for (int n = 1; n <= 5; n++) {
            int set = (1 << n) - 1;
            c.due(n + " of them", x.seated(set, set, NONE) >= 0, true);
            c.due("the highest " + n, x.seated(set << 10 - n, set << 10 - n, 9) >= 10 - n, true);
        }
        Twins.Maker many = () -> {
            BreatheAsOne y = ten();
            y.note(0, 0);
            return y;
        };
        Twins.idle(c, "six", many, NONE, y -> y.seated(63, 63, NONE));
        Twins.idle(c, "ten", many, NONE, y -> y.seated(1023, 1023, NONE));
        Twins.idle(c, "none", many, NONE, y -> y.seated(0, 0, NONE));
        Twins.idle(c, "six on five", many, NONE, y -> y.seated(63, 31, NONE));
        Twins.idle(c, "five on six", many, NONE, y -> y.seated(31, 63, NONE));
        Twins.idle(c, "two on one", many, NONE, y -> y.seated(3, 1, NONE));
        Twins.idle(c, "one on two", many, NONE, y -> y.seated(1, 3, NONE));
        Twins.idle(c, "none on one", many, NONE, y -> y.seated(0, 1, NONE));
        Twins.idle(c, "one on none", many, NONE, y -> y.seated(1, 0, NONE));
    }

    private static void seatedOthers() {
        c.sentence(27, "NONE for others");
        for (int set : new int[] {LEAST, -1, -2, 16, 1 << 10, 1 << 30, LEAST + 1}) {
            Twins.idle(c, "people " + set, Halls.BUSY, NONE, x -> x.seated(set, 1, NONE));
            Twins.idle(c, "seats " + set, Halls.BUSY, NONE, x -> x.seated(1, set, NONE));
        }
        Twins.idle(c, "person 10", Halls.FULL, NONE, x -> x.seated(1 << 10, 1, NONE));
        Twins.idle(c, "seat 10", Halls.FULL, NONE, x -> x.seated(1, 1 << 10, NONE));
        for (int person : new int[] {LEAST, -2, 0, 3, 4, 10, MOST}) {
            Twins.idle(c, "seated(6, 3, " + person + ")", Halls.BUSY, NONE, x -> x.seated(6, 3, person));
        }
        for (int person : new int[] {NONE, 1, 2}) {
            Twins.onlyAsks(c, "seated(6, 3, " + person + ")", Halls.BUSY, x -> x.seated(6, 3, person));
            c.due("seated(6, 3, " + person + ") is answered", Halls.busy().seated(6, 3, person) >= 0, true);
        }
        Twins.onlyAsks(c, "the last five", Halls.FULL, x -> x.seated(0x3e0, 0x1f, 9));
        Twins.idle(c, "in a new one", Halls.NEW, NONE, x -> x.seated(1, 1, NONE));
    }

    private static void seatedBest() {
        c.sentence(27, "the way by which most NOTES HOLD");
        BreatheAsOne x = turned("air=-10");
        c.due("how many", x.seated(31, 31, NONE), 1);
        for (int p = 0; p < 5; p++) c.due("the last of all ways: " + p, x.seated(31, 31, p), 4 - p);
        x = turned("air=10");
        for (int p = 0; p < 5; p++) c.due("the first of all ways: " + p, x.seated(31, 31, p), p);
        x = turned("air>99");
        c.due("none holds", x.seated(31, 31, NONE), 0);
        c.due("without NOTES", ten().seated(31, 31, NONE), 0);
        x = turned("1=1");
        for (int i = 1; i < 12; i++) x.note(i, 0);
        c.due("all twelve", x.seated(31, 31, NONE), 12);
        c.sentence(27, "of like ones the lowest SEAT for the lowest PERSON, then the next");
        int[] people = {0, 2, 5, 7, 9};
        int[] seats = {1, 3, 4, 6, 9};
        for (int i = 0; i < 5; i++) c.due("of person " + people[i], ten().seated(0x2a5, 0x25a, people[i]), seats[i]);
        x = turned("air#10");
        int[] second = {0, 1, 2, 4, 3};
        for (int p = 0; p < 5; p++) c.due("the second of all ways: " + p, x.seated(31, 31, p), second[p]);
        c.sentence(27, "others of these SEATS' people get up");
        x = Halls.row(4, "breath chest;");
        x.note(0, 4);
        x.note(0, 3);
        c.due("3 of 4 breathe: one note", x.seated(1, 2, NONE), 1);
        c.due("as they sit: both", x.seated(1, 1, NONE), 2);
        c.due("two for two others", x.seated(3, 12, NONE), 0);
        c.due("those of other SEATS stay", x.seated(8, 8, NONE), 2);
        c.due("the SEATS they had are empty", x.seated(12, 3, NONE), 0);
    }

    /** In each block one of chest 1 who is out without an usher and in with one. */
    private static BreatheAsOne blocks() {
        BreatheAsOne x = new BreatheAsOne();
        for (int i = 0; i < 4; i++) {
            x.seat(i, 1);
            x.person(1, 1, 0);
            x.sit(i, i);
        }
        return x;
    }

    private static void ushers() {
        c.sentence(28, "the fewest BLOCKS to have one .. so that all these HOLD; of like ones the lowest set (bits)");
        BreatheAsOne x = blocks();
        x.note(0, 4);
        x.note(0, 2);
        x.note(0, 0);
        x.note(1, 4);
        x.note(0, 5);
        c.due("four", x.ushers(1), 15);
        c.due("three: the lowest", x.ushers(2), 7);
        c.due("two: the lowest", x.ushers(4), 3);
        c.due("none", x.ushers(8), 0);
        c.due("all that hold by four", x.ushers(7), 15);
        c.due("for no notes", x.ushers(0), 0);
        c.due("for no notes in a new one", new BreatheAsOne().ushers(0), 0);
        BreatheAsOne weighty = new BreatheAsOne();
        for (int i = 0; i < 3; i++) {
            weighty.seat(i, 1);
            weighty.person(i == 2 ? 2 : 1, 1, 0);
            weighty.sit(i, i);
        }
        weighty.note(0, 0);
        c.due("one of 2 ahead of two of 1", weighty.ushers(1), 4);
        c.sentence(28, "NONE: none");
        c.due("above all air", x.ushers(16), NONE);
        c.due("two that never hold together", x.ushers(9), NONE);
        c.sentence(28, "those that have one now aside");
        for (int b = 0; b < 4; b++) x.usher(b, true);
        c.due("four", x.ushers(1), 15);
        c.due("two", x.ushers(4), 3);
        c.due("none", x.ushers(8), 0);
        c.due("for no notes", x.ushers(0), 0);
        c.sentence(28, "NONE for others");
        for (int notes : new int[] {LEAST, -1, 4, 1 << 12, MOST}) {
            Twins.idle(c, "ushers(" + notes + ")", Halls.BUSY, NONE, y -> y.ushers(notes));
        }
        Twins.idle(c, "ushers(4096)", Halls.FULL, NONE, y -> y.ushers(4096));
        Twins.onlyAsks(c, "ushers(4095)", Halls.FULL, y -> y.ushers(4095));
        Twins.idle(c, "ushers(1)", Halls.NEW, NONE, y -> y.ushers(1));
    }

    private static void cannot() {
        c.sentence(29, "NOTES (bits) that HOLD by no set of USHERS at all and nobody .. being otherwise");
        c.due("without NOTES", new BreatheAsOne().cannot(), 0);
        BreatheAsOne x = blocks();
        for (int high : new int[] {0, 4, 5, 99}) x.note(0, high);
        c.due("5 and 99 can't be had", x.cannot(), 12);
        for (int b = 0; b < 4; b++) x.usher(b, true);
        x.note(1, 4);
        c.due("by no USHERS, too", x.cannot(), 12);
        BreatheAsOne y = new BreatheAsOne();
        for (int i = 0; i < 12; i++) y.note(i, 1);
        c.due("nobody: all twelve", y.cannot(), 4095);
        c.sentence(29, "or one PERSON alone, being otherwise (ASLEEP if it isn't, AWAKE if it is)");
        BreatheAsOne z = Halls.row(3, "breath 1-2*asleep;");
        z.be(0, 1);
        z.be(1, 1);
        for (int high : new int[] {1, 2}) z.note(0, high);
        z.note(0, 99);
        c.due("one AWAKE: 1, both would be 3", z.cannot(), 6);
        z.by(Checks.text(z, "breath 1-2*asleep;holds air=0-3 or high=99;"));
        c.due("one ASLEEP", z.cannot(), 0);
        z.be(2, 2);
        c.due("who HOLDS can be ASLEEP", z.cannot(), 0);
        z.by(Checks.text(z, "breath 1-2*asleep;holds air=0-1 and high=1;"));
        c.due("but not AWAKE: -2, -3, 0", z.cannot(), 7);
        cannotByUshers();
        Twins.onlyAsks(c, "cannot()", Halls.BUSY, w -> w.cannot());
        Twins.onlyAsks(c, "cannot()", Halls.FULL, w -> w.cannot());
    }

    private static void cannotByUshers() {
        for (int block = 0; block < 4; block++) {
            BreatheAsOne x = new BreatheAsOne();
            x.seat(block, 1);
            x.person(1, 1, 0);
            x.sit(0, 0);
            x.be(0, 1);
            for (int i = 0; i < 4; i++) x.note(0, 0);
            // ASLEEP 1, AWAKE -1, AWAKE with an USHER 0; the last note would need 2.
            x.by(Checks.text(x, "breath 2*asleep+time;holds air=note-1;"));
            c.due("one of block " + block, x.cannot(), 8);
        }
        BreatheAsOne x = blocks();
        x.be(0, 1);
        for (int high = 0; high <= 4; high++) x.note(0, high);
        // ASLEEP 5, AWAKE 1, AWAKE with an USHER 0: air 0 needs all USHERS and 0 AWAKE, 4 none and 0 AWAKE, 12 another one ASLEEP.
        x.by(Checks.text(x, "breath 4*asleep-time;holds air=4*high;"));
        c.due("all sets of USHERS", x.cannot(), 16);
    }

    private static void shift() {
        c.sentence(30, "the least s (0 .. 17) by which .. most of them HOLD; how many");
        c.due("s without NOTES", new BreatheAsOne().shift(false), 0);
        c.due("none without NOTES", new BreatheAsOne().shift(true), 0);
        for (int s : new int[] {0, 1, 16, 17, 18}) {
            BreatheAsOne x = new BreatheAsOne();
            for (int beat : new int[] {100, 200, 300}) x.note(beat, 0);
            x.by(Checks.text(x, "holds beat=" + (200 + s) + " or beat=" + (300 + s) + ";"));
            c.due("s of " + s, x.shift(false), s == 18 ? 0 : s);
            c.due("how many by " + s, x.shift(true), s == 18 ? 0 : 2);
        }
        BreatheAsOne like = new BreatheAsOne();
        like.note(0, 0);
        like.by(Checks.text(like, "holds beat=5 or beat=17 or beat=18;"));
        c.due("the least of like ones", like.shift(false), 5);
        BreatheAsOne all = new BreatheAsOne();
        for (int i = 0; i < 12; i++) all.note(i, 0);
        c.due("all twelve", all.shift(true), 12);
        c.due("at once", all.shift(false), 0);
        BreatheAsOne air = Halls.one(5, 9, 1, 0);
        air.note(8, 5);
        c.due("the AIR is that of the later BEAT", air.shift(false), 9);
        air.note(9999, 5);
        c.due("beyond 9999 it goes on", air.shift(true), 2);
        Twins.onlyAsks(c, "shift(true)", Halls.BUSY, x -> x.shift(true));
        Twins.onlyAsks(c, "shift(false)", Halls.FULL, x -> x.shift(false));
    }

    private static void inTime() {
        c.sentence(31, "the same PULSE as one and whose TIME is alike by twice the PULSE at BEAT 0 (it, too ..)");
        BreatheAsOne x = new BreatheAsOne();
        x.seat(0, 9);
        x.seat(0, 5);
        x.person(1, 9, 0);
        x.person(1, 9, 5);
        x.person(1, 9, 6);
        x.person(1, 8, 5);
        x.sit(0, 0);
        x.be(0, 1);
        // ASLEEP on LAG 9 with PULSE 9: TIME -13, by 18 that is 5.
        c.due("TIME -13 and 5 by 18", x.inTime(0), 3);
        c.due("it, too", x.inTime(2), 4);
        c.due("another PULSE", x.inTime(3), 8);
        x.beat(7);
        c.due("at BEAT 0", x.inTime(1), 3);
        x.be(0, 0);
        c.due("TIME -9 and 5", x.inTime(0), 1);
        c.sentence(31, "on a SEAT or not: without one the LAG is 0");
        x.sit(1, 1);
        x.sit(0, NONE);
        c.due("TIME 0 on none and 0 on LAG 5", x.inTime(0), 3);
        for (int i = 4; i < 10; i++) x.person(1, 1, i % 2 == 0 ? 0 : 17);
        c.due("PULSE 1: 0 and 17 are unlike by 2", x.inTime(9), 1 << 9 | 1 << 7 | 1 << 5);
        c.sentence(31, "NONE for others");
        for (int person : new int[] {LEAST, -1, 4, 10, MOST}) {
            Twins.idle(c, "inTime(" + person + ")", Halls.BUSY, NONE, y -> y.inTime(person));
        }
        Twins.idle(c, "inTime(10)", Halls.FULL, NONE, y -> y.inTime(10));
        Twins.idle(c, "inTime(0)", Halls.NEW, NONE, y -> y.inTime(0));
        Twins.onlyAsks(c, "inTime(9)", Halls.FULL, y -> y.inTime(9));
    }

    private static void choir() {
        c.sentence(32, "the greatest number of PEOPLE in time with one another");
        c.due("nobody", new BreatheAsOne().choir(), 0);
        BreatheAsOne x = new BreatheAsOne();
        for (int i = 1; i <= 9; i++) {
            x.person(1, i, 0);
            c.due("each alone", x.choir(), 1);
        }
        x.person(9, 9, 0);
        c.due("two", x.choir(), 2);
        c.due("all ten", Halls.row(10, "").choir(), 10);
        BreatheAsOne y = Halls.row(10, "");
        for (int i = 0; i < 5; i++) y.sit(i, NONE);
        c.due("on a SEAT or not", y.choir(), 10);
        BreatheAsOne z = new BreatheAsOne();
        for (int i = 0; i < 10; i++) z.person(1, 1, i < 4 ? 0 : 1);
        c.due("six and four", z.choir(), 6);
        Twins.onlyAsks(c, "choir()", Halls.BUSY, w -> w.choir());
        Twins.onlyAsks(c, "choir()", Halls.FULL, w -> w.choir());
    }

    private static void odds(BreatheAsOne x, int from, int to, long upper, long lower) {
        c.due("comes(" + from + ", " + to + ", false)", x.comes(from, to, false), upper);
        c.due("comes(" + from + ", " + to + ", true)", x.comes(from, to, true), lower);
    }

    private static void comes() {
        c.sentence(33, "by passes out of 10 each, in lowest terms");
        odds(Halls.row(10, "passes 9;"), 0, 9, 387420489L, 1000000000L);
        odds(Halls.row(10, "passes 9;"), 9, 0, 387420489L, 1000000000L);
        odds(Halls.row(10, "passes 1;"), 0, 9, 1, 1000000000L);
        odds(Halls.row(10, "passes 5;"), 0, 9, 1, 512);
        odds(Halls.row(10, "passes 10;"), 9, 0, 1, 1);
        odds(Halls.row(10, "passes 0;"), 0, 1, 0, 1);
        odds(Halls.row(10, ""), 4, 5, 3, 10);
        odds(Halls.row(10, "passes 4;"), 4, 2, 4, 25);
        odds(Halls.row(10, "passes 6;"), 4, 3, 3, 5);
        c.sentence(33, "a COUGH of one (now)");
        BreatheAsOne x = Halls.row(2, "passes beat;");
        odds(x, 0, 1, 0, 1);
        x.beat(9);
        odds(x, 0, 1, 9, 10);
        x.beat(1);
        odds(x, 0, 1, 1, 1);
        c.sentence(33, "0 by 1, if it can't");
        BreatheAsOne y = Halls.row(4, "passes 10;");
        y.sit(1, NONE);
        odds(y, 0, 2, 0, 1);
        odds(y, 2, 0, 0, 1);
        odds(y, 2, 3, 1, 1);
        odds(y, 1, 0, 0, 1);
        odds(y, 0, 1, 0, 1);
        c.sentence(33, "itself: 1 by 1");
        odds(y, 1, 1, 1, 1);
        odds(y, 0, 0, 1, 1);
        odds(Halls.row(1, "passes 0;"), 0, 0, 1, 1);
        c.sentence(33, "NONE for others");
        for (int other : new int[] {LEAST, -1, 4, 10, MOST}) {
            for (boolean low : new boolean[] {false, true}) {
                Twins.idle(c, "comes(0, " + other + ")", Halls.BUSY, NONE, z -> z.comes(0, other, low));
                Twins.idle(c, "comes(" + other + ", 0)", Halls.BUSY, NONE, z -> z.comes(other, 0, low));
                Twins.idle(c, "comes(" + other + ", the same)", Halls.BUSY, NONE, z -> z.comes(other, other, low));
            }
        }
        Twins.idle(c, "comes(9, 10)", Halls.FULL, NONE, z -> z.comes(9, 10, true));
        Twins.idle(c, "comes(0, 0)", Halls.NEW, NONE, z -> z.comes(0, 0, true));
        Twins.onlyAsks(c, "comes(0, 9)", Halls.FULL, z -> z.comes(0, 9, true));
    }

    private static void need(BreatheAsOne x, int n, int... due) {
        for (int w = 0; w < 4; w++) c.due("needed(" + n + ", " + w + ")", x.needed(n, w), due[w]);
    }

    private static void needed() {
        c.sentence(34, "n BEATS (1 .. 200) from BEAT on");
        BreatheAsOne x = Halls.row(1, "breath beat/199;");
        need(x, 1, 0, 0, 0, 0);
        need(x, 199, 0, 0, 0, 0);
        need(x, 200, 1, 1, 0, 199);
        x.beat(1);
        need(x, 198, 0, 0, 0, 0);
        need(x, 199, 1, 1, 0, 198);
        need(x, 200, 2, 1, 0, 198);
        c.sentence(34, "the sum of AIR that is above 0; the greatest AIR, the least, the first BEAT .. in which the greatest is");
        BreatheAsOne y = Halls.row(1, "breath beat%4-2;");
        need(y, 1, 0, -2, -2, 0);
        need(y, 2, 0, -1, -2, 1);
        need(y, 3, 0, 0, -2, 2);
        need(y, 4, 1, 1, -2, 3);
        need(y, 200, 50, 1, -2, 3);
        y.beat(3);
        need(y, 5, 2, 1, -2, 0);
        need(new BreatheAsOne(), 200, 0, 0, 0, 0);
        BreatheAsOne z = Halls.one(7, 1, 0, 0);
        Halls.goTo(z, 9999);
        need(z, 1, 0, -7, -7, 0);
        need(z, 2, 7, 7, -7, 1);
        c.sentence(34, "-100000 for others");
        for (int n : new int[] {LEAST, -1, 0, 201, MOST}) {
            Twins.idle(c, "needed(" + n + ", 0)", Halls.BUSY, NO_VALUE, w -> w.needed(n, 0));
            Twins.idle(c, "needed(" + n + ", 3)", Halls.FULL, NO_VALUE, w -> w.needed(n, 3));
        }
        for (int what : new int[] {LEAST, -1, 4, MOST}) {
            Twins.idle(c, "needed(1, " + what + ")", Halls.BUSY, NO_VALUE, w -> w.needed(1, what));
        }
        Twins.onlyAsks(c, "needed(200, 0)", Halls.FULL, w -> w.needed(200, 0));
    }

    public static void main(String[] args) {
        seatedSizes();
        seatedOthers();
        seatedBest();
        ushers();
        cannot();
        shift();
        inTime();
        choir();
        comes();
        needed();
        c.finish();
    }
}
