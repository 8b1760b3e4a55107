/** Promises 19 to 26: each sentence that names an edge of what is seen of people, seats, notes, air and coughs. */
public final class EdgesLooksTest {
    private static final int NONE = BreatheAsOne.NONE;
    private static final int NO_VALUE = -100000;
    private static final int LEAST = Integer.MIN_VALUE;
    private static final int MOST = Integer.MAX_VALUE;
    private static final Checks c = new Checks();

    private static void ofOthers() {
        c.sentence(19, "Of a PERSON .. -100000 for others");
        for (int person : new int[] {LEAST, -2, -1, 4, 10, MOST}) {
            for (int what = 0; what <= 6; what++) {
                c.due("of(" + person + ", " + what + ")", Halls.busy().of(person, what), NO_VALUE);
            }
            Twins.idle(c, "of(" + person + ", 0)", Halls.BUSY, NO_VALUE, x -> x.of(person, 0));
        }
        for (int what : new int[] {LEAST, -1, 7, MOST}) {
            Twins.idle(c, "of(0, " + what + ")", Halls.BUSY, NO_VALUE, x -> x.of(0, what));
        }
        Twins.idle(c, "of(10, 0)", Halls.FULL, NO_VALUE, x -> x.of(10, 0));
        Twins.idle(c, "of(0, 0)", Halls.NEW, NO_VALUE, x -> x.of(0, 0));
        c.sentence(19, "0 CHEST, 1 PULSE, 2 START, 3 SEAT (NONE), 4 how it IS");
        int[][] due = {{5, 2, 0, 0, 0}, {3, 2, 1, 1, 0}, {4, 3, 0, 2, 1}, {2, 9, 17, NONE, 0}};
        for (int p = 0; p < 4; p++) for (int w = 0; w < 5; w++) c.due("of(" + p + ", " + w + ")", Halls.busy().of(p, w), due[p][w]);
        c.due("the last one's CHEST", Halls.full().of(9, 0), 1);
        c.due("the last one's SEAT", Halls.full().of(9, 3), 0);
    }

    private static void timeBySeat() {
        c.sentence(19, "TIME: BEAT and START less its LAG (that of its SEAT ..)");
        BreatheAsOne x = Halls.one(1, 9, 0, 9);
        c.due("the least AWAKE", x.of(0, 5), -9);
        x.sit(0, NONE);
        c.due("on no SEAT", x.of(0, 5), 0);
        BreatheAsOne y = Halls.one(1, 1, 17, 0);
        Halls.goTo(y, 9999);
        c.due("the greatest", y.of(0, 5), 10016);
        c.sentence(19, "0, if an USHER is in that BLOCK and it isn't ASLEEP");
        for (int block = 0; block < 4; block++) {
            for (int usher = 0; usher < 4; usher++) {
                BreatheAsOne z = new BreatheAsOne();
                z.seat(block, 9);
                z.person(1, 1, 0);
                z.sit(0, 0);
                z.usher(usher, true);
                c.due("AWAKE in " + block + ", USHER in " + usher, z.of(0, 5), block == usher ? 0 : -9);
                z.be(0, 2);
                c.due("HOLDS in " + block + ", USHER in " + usher, z.of(0, 5), block == usher ? 0 : -9);
                z.be(0, 1);
                c.due("ASLEEP in " + block + ", USHER in " + usher, z.of(0, 5), -9);
            }
        }
    }

    private static void timeAsleep() {
        c.sentence(19, "less half its PULSE (cut) more, if it is ASLEEP");
        int[] half = {0, 0, 1, 1, 2, 2, 3, 3, 4, 4};
        for (int pulse = 1; pulse <= 9; pulse++) {
            BreatheAsOne x = Halls.one(1, pulse, 0, 9);
            x.be(0, 1);
            c.due("PULSE " + pulse, x.of(0, 5), -9 - half[pulse]);
            x.sit(0, NONE);
            c.due("on no SEAT", x.of(0, 5), -half[pulse]);
            x.be(0, 2);
            c.due("HOLDS", x.of(0, 5), 0);
        }
    }

    private static void breathless() {
        c.sentence(19, "BREATH: 0, if it COUGHS at that BEAT, HOLDS, or is on no SEAT");
        for (String law : new String[] {"", "breath 7;"}) {
            BreatheAsOne x = Halls.row(3, law);
            int in = law.isEmpty() ? 1 : 7;
            c.due("BREATH", x.of(0, 6), in);
            x.sit(1, NONE);
            c.due("on no SEAT", x.of(1, 6), 0);
            x.be(2, 2);
            c.due("HOLDS", x.of(2, 6), 0);
            x.be(2, 1);
            c.due("ASLEEP", x.of(2, 6), in);
            x.cough(0);
            c.due("COUGHS", x.of(0, 6), 0);
            c.due("AIR", x.air(0), in);
            x.beat(2);
            c.due("not at another BEAT", x.of(0, 6), in);
            c.due("AIR", x.air(2), 2 * in);
        }
    }

    private static void ofSeats() {
        c.sentence(20, "Of a SEAT: 0 BLOCK, 1 LAG, 2 who sits there (NONE)");
        int[][] due = {{0, 2, 0}, {0, 0, 1}, {1, 3, 2}, {2, 9, NONE}};
        for (int s = 0; s < 4; s++) for (int w = 0; w < 3; w++) c.due("ofSeat(" + s + ", " + w + ")", Halls.busy().ofSeat(s, w), due[s][w]);
        c.due("who sits on the last", Halls.full().ofSeat(9, 2), 1);
        c.sentence(20, "-2 for others");
        for (int seat : new int[] {LEAST, -2, -1, 4, 10, MOST}) {
            for (int what = 0; what < 3; what++) {
                int asked = what;
                Twins.idle(c, "ofSeat(" + seat + ", " + what + ")", Halls.BUSY, -2, x -> x.ofSeat(seat, asked));
            }
        }
        for (int what : new int[] {LEAST, -1, 3, MOST}) {
            Twins.idle(c, "ofSeat(0, " + what + ")", Halls.BUSY, -2, x -> x.ofSeat(0, what));
        }
        Twins.idle(c, "ofSeat(10, 0)", Halls.FULL, -2, x -> x.ofSeat(10, 0));
        Twins.idle(c, "ofSeat(0, 0)", Halls.NEW, -2, x -> x.ofSeat(0, 0));
    }

    private static void ofNotes() {
        c.sentence(21, "Of a NOTE: 0 BEAT, 1 HIGH, 2 AIR at it, 3 whether it HOLDS (1, 0)");
        BreatheAsOne x = Halls.one(5, 1, 0, 0);
        x.note(9998, 5);
        x.note(9998, 6);
        x.note(9999, 0);
        int[][] due = {{9998, 5, 5, 1}, {9998, 6, 5, 0}, {9999, 0, -5, 0}};
        for (int n = 0; n < 3; n++) for (int w = 0; w < 4; w++) c.due("ofNote(" + n + ", " + w + ")", x.ofNote(n, w), due[n][w]);
        c.due("the last of twelve", Halls.full().ofNote(11, 1), 22);
        c.sentence(21, "-100000 for others");
        for (int note : new int[] {LEAST, -2, -1, 2, 12, MOST}) {
            for (int what = 0; what < 4; what++) {
                int asked = what;
                Twins.idle(c, "ofNote(" + note + ", " + what + ")", Halls.BUSY, NO_VALUE, y -> y.ofNote(note, asked));
            }
        }
        for (int what : new int[] {LEAST, -1, 4, MOST}) {
            Twins.idle(c, "ofNote(0, " + what + ")", Halls.BUSY, NO_VALUE, y -> y.ofNote(0, what));
        }
        Twins.idle(c, "ofNote(12, 0)", Halls.FULL, NO_VALUE, y -> y.ofNote(12, 0));
        Twins.idle(c, "ofNote(0, 0)", Halls.NEW, NO_VALUE, y -> y.ofNote(0, 0));
    }

    private static void air() {
        c.sentence(22, "AIR at a BEAT: the BREATH of all, together");
        c.due("of nobody", new BreatheAsOne().air(0), 0);
        c.due("of nobody", new BreatheAsOne().air(9999), 0);
        BreatheAsOne x = new BreatheAsOne();
        for (int i = 0; i < 10; i++) {
            x.seat(3, 0);
            x.person(9, 1, 0);
            x.sit(i, i);
        }
        c.due("the most", x.air(0), 90);
        c.due("the least", x.air(1), -90);
        c.due("at 9998", x.air(9998), 90);
        c.due("at 9999", x.air(9999), -90);
        x.note(0, 90);
        x.note(0, 91);
        x.note(0, 99);
        c.due("HIGH 90, 91 and 99", x.fell(), 6);
        x.sit(9, NONE);
        c.due("of nine", x.air(0), 81);
        c.sentence(22, "-100000 for others");
        for (int beat : new int[] {LEAST, -1, 10000, MOST}) {
            Twins.idle(c, "air(" + beat + ")", Halls.FULL, NO_VALUE, y -> y.air(beat));
        }
    }

    private static void coughs() {
        c.sentence(23, "COUGHS: how many (i NONE)");
        c.due("none", new BreatheAsOne().coughs(NONE, 0), 0);
        c.due("twenty", Halls.full().coughs(NONE, 0), 20);
        c.due("by what 1", Halls.full().coughs(NONE, 1), 20);
        c.sentence(23, "the i-th: 0 PERSON, 1 BEAT");
        BreatheAsOne x = Halls.full();
        int[] who = {0, 1, 2, 3, 4, 5, 6, 7, 8, 9, 5, 4, 3, 2, 1, 0, 6, 7, 8, 9};
        for (int i = 0; i < 20; i++) {
            c.due("coughs(" + i + ", 0)", x.coughs(i, 0), who[i]);
            c.due("coughs(" + i + ", 1)", x.coughs(i, 1), i / 10);
        }
        c.sentence(23, "-2 if there is none such");
        for (int i : new int[] {LEAST, -2, 20, 21, MOST}) {
            Twins.idle(c, "coughs(" + i + ", 0)", Halls.FULL, -2, y -> y.coughs(i, 0));
            Twins.idle(c, "coughs(" + i + ", 1)", Halls.FULL, -2, y -> y.coughs(i, 1));
        }
        Twins.idle(c, "coughs(0, 0)", Halls.NEW, -2, y -> y.coughs(0, 0));
        int kept = Halls.busy().coughs(NONE, 0);
        Twins.idle(c, "coughs(" + kept + ", 0)", Halls.BUSY, -2, y -> y.coughs(kept, 0));
        c.sentence(23, "-2 for others");
        for (int what : new int[] {LEAST, -1, 2, MOST}) {
            Twins.idle(c, "coughs(0, " + what + ")", Halls.FULL, -2, y -> y.coughs(0, what));
            Twins.idle(c, "coughs(19, " + what + ")", Halls.FULL, -2, y -> y.coughs(19, what));
        }
    }

    /** Twelve notes at the beats 0 to 11, ten people, and whatever law of holding. */
    private static BreatheAsOne twelve(String holds) {
        BreatheAsOne x = Halls.row(10, "breath 1;holds " + holds + ";");
        for (int i = 0; i < 12; i++) x.note(i, 5);
        return x;
    }

    private static void fell() {
        c.sentence(24, "FELL: NOTES (bits) that FALL");
        c.due("of no notes", new BreatheAsOne().fell(), 0);
        c.due("none of twelve", twelve("1=1").fell(), 0);
        c.due("all of twelve", twelve("1=2").fell(), 4095);
        c.due("the first alone", twelve("note>0").fell(), 1);
        c.due("the last alone", twelve("note<11").fell(), 2048);
        c.due("the last alone by its beat", twelve("beat<11").fell(), 2048);
    }

    private static void isOut() {
        c.sentence(25, "just a told set of NOTES would FALL");
        c.due("none, by each", twelve("1=1").whoIsOut(0), 1023);
        c.due("all, by each", twelve("1=2").whoIsOut(4095), 1023);
        c.due("the last, by each", twelve("note<11").whoIsOut(2048), 1023);
        c.due("the last and more", twelve("note<11").whoIsOut(2049), 0);
        c.due("less than the last", twelve("note<11").whoIsOut(0), 0);
        c.due("without NOTES", Halls.row(10, "").whoIsOut(0), 1023);
        c.due("without PEOPLE", new BreatheAsOne().whoIsOut(0), 0);
        c.sentence(25, "ASLEEP if it isn't (AWAKE, if it is)");
        BreatheAsOne x = Halls.row(3, "breath 1-asleep;");
        x.note(0, 3);
        x.note(0, 2);
        c.due("by one ASLEEP the first falls", x.whoIsOut(1), 7);
        c.due("none of them makes nothing fall", x.whoIsOut(0), 0);
        x.be(1, 1);
        c.due("1 AWAKE: none falls", x.whoIsOut(0), 2);
        c.due("another one ASLEEP: both fall", x.whoIsOut(3), 5);
        x.be(1, 2);
        c.due("who HOLDS would be ASLEEP", x.whoIsOut(1), 2);
        notSets(25, "whoIsOut", (y, notes) -> y.whoIsOut(notes));
    }

    private interface BySet { long of(BreatheAsOne x, int notes); }

    /** Sets that have a note that isn't told, or are below 0. */
    private static void notSets(int promise, String name, BySet ask) {
        c.sentence(promise, "NONE for others");
        for (int notes : new int[] {LEAST, -2, -1, 4, 7, 4095, 4096, 1 << 30, MOST}) {
            Twins.idle(c, name + "(" + notes + ") of 2 notes", Halls.BUSY, NONE, x -> ask.of(x, notes));
        }
        for (int notes : new int[] {LEAST, -1, 4096, 8191, MOST}) {
            Twins.idle(c, name + "(" + notes + ") of 12 notes", Halls.FULL, NONE, x -> ask.of(x, notes));
        }
        Twins.idle(c, name + "(1) of no notes", Halls.NEW, NONE, x -> ask.of(x, 1));
        for (int notes : new int[] {0, 1, 2048, 4095}) {
            Twins.onlyAsks(c, name + "(" + notes + ")", Halls.FULL, x -> ask.of(x, notes));
            c.due(name + "(" + notes + ") is answered", ask.of(Halls.full(), notes) >= 0, true);
        }
    }

    private static void hiccupped() {
        c.sentence(26, "how many (i NONE), the i-th (PERSON by PERSON, then NOTES)");
        BreatheAsOne all = twelve("1=1");
        c.due("all", all.hiccupped(0, NONE), 120);
        c.due("the first", all.hiccupped(0, 0), 0);
        c.due("the twelfth", all.hiccupped(0, 11), 11);
        c.due("the thirteenth", all.hiccupped(0, 12), 100);
        c.due("the last", all.hiccupped(0, 119), 911);
        c.due("without NOTES", Halls.row(10, "").hiccupped(0, NONE), 0);
        c.due("without PEOPLE", new BreatheAsOne().hiccupped(0, NONE), 0);
        c.sentence(26, "100 times a PERSON and a NOTE: at that NOTE's BEAT it would have COUGHED .. just a told set would FALL");
        BreatheAsOne x = Halls.row(3, "breath 1;passes 0;");
        x.note(0, 3);
        x.note(1, 3);
        x.note(0, 0);
        int[] first = {0, 2, 100, 102, 200, 202};
        c.due("note 0 alone", x.hiccupped(1, NONE), 6);
        for (int i = 0; i < 6; i++) c.due("hiccupped(1, " + i + ")", x.hiccupped(1, i), first[i]);
        c.due("note 1 alone", x.hiccupped(2, NONE), 3);
        c.due("the third", x.hiccupped(2, 2), 201);
        c.due("none", x.hiccupped(0, NONE), 0);
        c.sentence(26, "it doesn't as it is");
        x.cough(0);
        c.due("0 COUGHS at beat 0", x.hiccupped(1, NONE), 4);
        c.due("so 1 is the first", x.hiccupped(1, 0), 100);
        c.due("0 at beat 1", x.hiccupped(3, 0), 1);
        for (int i = 0; i < 3; i++) x.be(i, 2);
        c.due("who HOLDS can hiccup", x.hiccupped(3, NONE), 7);
    }

    private static void hiccuppedNot() {
        c.sentence(26, "NONE if there is none such");
        for (int i : new int[] {120, 121, MOST, -2, LEAST}) {
            Twins.Maker all = () -> twelve("1=1");
            Twins.idle(c, "hiccupped(0, " + i + ") of 120", all, NONE, x -> x.hiccupped(0, i));
        }
        Twins.idle(c, "hiccupped(0, 0) of none", Halls.NEW, NONE, x -> x.hiccupped(0, 0));
        notSets(26, "hiccupped", (x, notes) -> x.hiccupped(notes, NONE));
    }

    private static void asksAlone() {
        c.sentence(24, "All that follows changes nothing");
        for (Twins.Maker maker : new Twins.Maker[] {Halls.NEW, Halls.BUSY, Halls.FULL}) {
            Twins.onlyAsks(c, "fell()", maker, x -> x.fell());
            Twins.onlyAsks(c, "air(9999)", maker, x -> x.air(9999));
            Twins.onlyAsks(c, "of(1, 6)", maker, x -> x.of(1, 6));
            Twins.onlyAsks(c, "ofNote(1, 3)", maker, x -> x.ofNote(1, 3));
            Twins.onlyAsks(c, "whoIsOut(0)", maker, x -> x.whoIsOut(0));
            Twins.onlyAsks(c, "hiccupped(3, 2)", maker, x -> x.hiccupped(3, 2));
        }
    }

    public static void main(String[] args) {
        ofOthers();
        timeBySeat();
        timeAsleep();
        breathless();
        ofSeats();
        ofNotes();
        air();
        coughs();
        fell();
        isOut();
        hiccupped();
        hiccuppedNot();
        asksAlone();
        c.finish();
    }
}
