/** Promises 1 to 9: each sentence that names an edge of what can be told, of the tape and of texts. */
public final class EdgesTellingTest {
    private static final int NONE = BreatheAsOne.NONE;
    private static final int LEAST = Integer.MIN_VALUE;
    private static final int MOST = Integer.MAX_VALUE;
    private static final int BLANKS = 0x20202020;
    private static final Checks c = new Checks();

    private static void none() {
        c.sentence(0, "NONE = -1: None");
        c.due("NONE", BreatheAsOne.NONE, -1);
    }

    private static void aNewObject() {
        c.sentence(1, "No SEATS");
        BreatheAsOne x = new BreatheAsOne();
        c.due("SEATS", x.about(0), 0);
        c.due("SEAT 0", x.ofSeat(0, 0), -2);
        c.sentence(1, "THE IMAGE is this");
        c.due("back() of a new one", x.back(), 0);
        Twins.alike(c, "back() at once", Halls.NEW, () -> {
            BreatheAsOne y = new BreatheAsOne();
            y.back();
            return y;
        });
        Twins.alike(c, "back() after all kinds of calls", Halls.NEW, EdgesTellingTest::usedAndBack);
        c.sentence(0, "BEAT at first 0, X at first 71, USHERS at first none, THE TEXT at first none");
        int[] due = {0, 0, 0, 0, 71, 0, NONE, 0, 0, 0, 0, 0};
        for (int i = 0; i < due.length; i++) c.due("about(" + i + ")", new BreatheAsOne().about(i), due[i]);
    }

    private static BreatheAsOne usedAndBack() {
        BreatheAsOne x = new BreatheAsOne();
        x.seat(1, 1);
        x.person(2, 2, 2);
        x.note(3, 3);
        x.sit(0, 0);
        x.be(0, 1);
        x.usher(3, true);
        x.cough(0);
        x.beat(9);
        x.season(3, 40);
        x.seen(0, 1, 1);
        x.person(1, 1, 1);
        x.beside(0, 1);
        x.back();
        return x;
    }

    private static void seatBlock() {
        c.sentence(2, "BLOCK 0 .. 3, NONE for others");
        for (int block : new int[] {LEAST, -1, 4, MOST}) {
            Twins.idle(c, "seat(" + block + ", 0)", Halls.BUSY, NONE, x -> x.seat(block, 0));
        }
        for (int block = 0; block <= 3; block++) {
            BreatheAsOne x = new BreatheAsOne();
            c.due("seat(" + block + ", 0)", x.seat(block, 0), 0);
            c.due("its BLOCK", x.ofSeat(0, 0), block);
        }
    }

    private static void seatLag() {
        c.sentence(2, "LAG 0 .. 9, NONE for others");
        for (int lag : new int[] {LEAST, -1, 10, MOST}) {
            Twins.idle(c, "seat(0, " + lag + ")", Halls.BUSY, NONE, x -> x.seat(0, lag));
        }
        BreatheAsOne x = new BreatheAsOne();
        for (int lag = 0; lag <= 9; lag++) {
            c.due("seat(0, " + lag + ")", x.seat(0, lag), lag);
            c.due("its LAG", x.ofSeat(lag, 1), lag);
        }
    }

    private static void tenSeats() {
        c.sentence(2, "its number .. NONE if there are 10");
        BreatheAsOne x = new BreatheAsOne();
        for (int i = 0; i < 10; i++) {
            c.due("a wrong one takes no number", x.seat(4, 10), NONE);
            c.due("seat", x.seat(3, 9), i);
        }
        c.due("the eleventh", x.seat(3, 9), NONE);
        c.due("SEATS", x.about(0), 10);
        c.due("nobody sits there at first", x.ofSeat(9, 2), NONE);
        Twins.idle(c, "seat(0, 0) of 10", Halls.FULL, NONE, y -> y.seat(0, 0));
    }

    private static void personChest() {
        c.sentence(3, "CHEST 1 .. 9, NONE for others");
        for (int chest : new int[] {LEAST, -1, 0, 10, MOST}) {
            Twins.idle(c, "person(" + chest + ", 1, 0)", Halls.BUSY, NONE, x -> x.person(chest, 1, 0));
        }
        BreatheAsOne x = new BreatheAsOne();
        for (int chest = 1; chest <= 9; chest++) {
            c.due("person(" + chest + ", 1, 0)", x.person(chest, 1, 0), chest - 1);
            c.due("its CHEST", x.of(chest - 1, 0), chest);
        }
    }

    private static void personPulse() {
        c.sentence(3, "PULSE 1 .. 9, NONE for others");
        for (int pulse : new int[] {LEAST, -1, 0, 10, MOST}) {
            Twins.idle(c, "person(1, " + pulse + ", 0)", Halls.BUSY, NONE, x -> x.person(1, pulse, 0));
        }
        BreatheAsOne x = new BreatheAsOne();
        for (int pulse = 1; pulse <= 9; pulse++) {
            c.due("person(1, " + pulse + ", 0)", x.person(1, pulse, 0), pulse - 1);
            c.due("its PULSE", x.of(pulse - 1, 1), pulse);
        }
    }

    private static void personStart() {
        c.sentence(3, "START 0 .. 17, NONE for others");
        for (int start : new int[] {LEAST, -1, 18, MOST}) {
            Twins.idle(c, "person(1, 1, " + start + ")", Halls.BUSY, NONE, x -> x.person(1, 1, start));
        }
        for (int start = 0; start <= 17; start++) {
            BreatheAsOne x = new BreatheAsOne();
            c.due("person(1, 1, " + start + ")", x.person(1, 1, start), 0);
            c.due("its START", x.of(0, 2), start);
        }
    }

    private static void tenPeople() {
        c.sentence(3, "the number .. NONE if there are 10");
        BreatheAsOne x = new BreatheAsOne();
        for (int i = 0; i < 10; i++) {
            c.due("a wrong one takes no number", x.person(0, 0, 18), NONE);
            c.due("person", x.person(9, 9, 17), i);
        }
        c.due("the eleventh", x.person(1, 1, 0), NONE);
        c.due("PEOPLE", x.about(1), 10);
        Twins.idle(c, "person(1, 1, 0) of 10", Halls.FULL, NONE, y -> y.person(1, 1, 0));
        c.sentence(0, "on none (at first none), AWAKE (at first)");
        for (int i = 0; i < 10; i++) {
            c.due("SEAT", x.of(i, 3), NONE);
            c.due("how it IS", x.of(i, 4), 0);
        }
    }

    private static void noteBeat() {
        c.sentence(4, "BEAT 0 .. 9999, NONE for others");
        for (int beat : new int[] {LEAST, -1, 10000, MOST}) {
            Twins.idle(c, "note(" + beat + ", 0)", Halls.BUSY, NONE, x -> x.note(beat, 0));
        }
        for (int beat : new int[] {0, 1, 9998, 9999}) {
            BreatheAsOne x = new BreatheAsOne();
            c.due("note(" + beat + ", 0)", x.note(beat, 0), 0);
            c.due("its BEAT", x.ofNote(0, 0), beat);
        }
    }

    private static void noteHigh() {
        c.sentence(4, "HIGH 0 .. 99, NONE for others");
        for (int high : new int[] {LEAST, -1, 100, MOST}) {
            Twins.idle(c, "note(0, " + high + ")", Halls.BUSY, NONE, x -> x.note(0, high));
        }
        for (int high : new int[] {0, 1, 98, 99}) {
            BreatheAsOne x = new BreatheAsOne();
            c.due("note(0, " + high + ")", x.note(0, high), 0);
            c.due("its HIGH", x.ofNote(0, 1), high);
        }
    }

    private static void twelveNotes() {
        c.sentence(4, "its number .. NONE if there are 12");
        BreatheAsOne x = new BreatheAsOne();
        for (int i = 0; i < 12; i++) {
            c.due("a wrong one takes no number", x.note(-1, -1), NONE);
            c.due("note", x.note(9999, 99), i);
        }
        c.due("the thirteenth", x.note(0, 0), NONE);
        c.due("NOTES", x.about(2), 12);
        Twins.idle(c, "note(0, 0) of 12", Halls.FULL, NONE, y -> y.note(0, 0));
    }

    /** All are blanks but one byte, and a fault tells where that came to stand. */
    private static void feedOrder() {
        c.sentence(5, "Twenty bytes come behind the tape, the highest of a first");
        for (int place = 0; place < 20; place++) {
            for (int odd : new int[] {'!', 0x80, 0xff, 0}) {
                int[] w = {BLANKS, BLANKS, BLANKS, BLANKS, BLANKS};
                int shift = 24 - 8 * (place % 4);
                w[place / 4] = w[place / 4] & ~(0xff << shift) | odd << shift;
                BreatheAsOne x = new BreatheAsOne();
                x.feed(BLANKS, BLANKS, BLANKS, BLANKS, BLANKS);
                c.due("feed", x.feed(w[0], w[1], w[2], w[3], w[4]), 40);
                c.due("text()", x.text(), NONE);
                c.due("the place of byte " + odd, x.fault(1), 20 + place);
            }
        }
    }

    private static void feedRoom() {
        c.sentence(5, "how many it has; NONE, and none come, if there would be more than 300");
        BreatheAsOne x = new BreatheAsOne();
        for (int i = 1; i <= 15; i++) c.due("feed", x.feed(BLANKS, BLANKS, BLANKS, BLANKS, BLANKS), 20 * i);
        c.due("feed at 300", x.feed(BLANKS, BLANKS, BLANKS, BLANKS, BLANKS), NONE);
        for (int n : new int[] {299, 290, 281}) {
            c.due("end", x.end(n), n);
            c.due("feed at " + n, x.feed(0, 0, 0, 0, 0), NONE);
            c.due("bytes", x.about(11), n);
        }
        x.end(280);
        c.due("feed at 280", x.feed(BLANKS, BLANKS, BLANKS, BLANKS, BLANKS), 300);
        x.end(279);
        c.due("feed at 279", x.feed(BLANKS, BLANKS, BLANKS, BLANKS, BLANKS), 299);
        c.due("all 299 are blanks", x.text(), 0);
        Twins.idle(c, "feed at 300", Halls.FULL, NONE, y -> y.feed(0, 0, 0, 0, 0));
        Twins.Maker at281 = () -> {
            BreatheAsOne y = new BreatheAsOne();
            Checks.tape(y, " ".repeat(274) + "beat 7;");
            return y;
        };
        Twins.idle(c, "feed at 281", at281, NONE, y -> y.feed(0, 0, 0, 0, 0));
    }

    private static void endWithin() {
        c.sentence(6, "The tape has its first n bytes alone: n");
        BreatheAsOne x = new BreatheAsOne();
        c.due("end(0) of none", x.end(0), 0);
        Checks.tape(x, "beat 7;!");
        c.due("end(8) of 8", x.end(8), 8);
        c.due("end(7)", x.end(7), 7);
        c.due("bytes", x.about(11), 7);
        c.due("what was behind them is gone", x.text(), 0);
        Checks.tape(x, "!");
        c.due("end(0)", x.end(0), 0);
        c.due("nothing is left", x.text(), 1);
        Checks.tape(x, "beat");
        x.feed(0x20393b20, BLANKS, BLANKS, BLANKS, BLANKS);
        c.due("what is fed comes behind them", x.text(), 2);
        c.due("beat 9;", x.played(2), NONE);
        c.due("BEAT", x.about(3), 9);
    }

    private static void endBeyond() {
        c.sentence(6, "NONE, and nothing is done, if it has not so many, or n is below 0");
        for (int n : new int[] {LEAST, -20, -1, 8, 20, 300, MOST}) {
            Twins.idle(c, "end(" + n + ") of 7", Halls.BUSY, NONE, x -> x.end(n));
        }
        Twins.idle(c, "end(301) of 300", Halls.FULL, NONE, x -> x.end(301));
        Twins.idle(c, "end(300) of 300", Halls.FULL, 300, x -> x.end(300));
        Twins.idle(c, "end(1) of 0", Halls.NEW, NONE, x -> x.end(1));
        Twins.idle(c, "end(0) of 0", Halls.NEW, 0, x -> x.end(0));
        BreatheAsOne x = Halls.busy();
        x.end(5);
        c.due("bytes that are gone don't come back", x.end(6), NONE);
    }

    private static void textRead() {
        c.sentence(7, "The tape (empty then) is a TEXT: its number");
        BreatheAsOne x = new BreatheAsOne();
        c.due("of no bytes", x.text(), 0);
        c.due("of one blank", Checks.text(x, "\n"), 1);
        Checks.tape(x, "passes " + "-1".repeat(146) + ";");
        c.due("bytes", x.about(11), 300);
        c.due("of 300 bytes", x.text(), 2);
        c.due("empty then", x.about(11), 0);
        c.due("the fourth", Checks.text(x, "beat 1;"), 3);
        c.due("TEXTS", x.about(5), 4);
    }

    private static void textFaulty() {
        c.sentence(7, "NONE: it has a FAULT");
        BreatheAsOne x = new BreatheAsOne();
        c.due("a fault", Checks.text(x, "beat 1;beat"), NONE);
        c.due("TEXTS", x.about(5), 0);
        c.due("the tape is empty then", x.about(11), 0);
        c.due("it can't be played", x.played(0), -2);
        c.due("nothing of it is done", x.about(3), 0);
        c.due("a fine one has the number", Checks.text(x, "beat 1;"), 0);
        c.due("a fault again", Checks.text(x, ";"), NONE);
        c.due("the next number", Checks.text(x, "beat 2;"), 1);
        c.due("of the first", x.played(0), NONE);
        c.due("BEAT", x.about(3), 1);
    }

    private static void textFifth() {
        c.sentence(7, "NONE: (the tape stays) there are 4");
        Twins.idle(c, "text() of 4", Halls.FULL, NONE, x -> x.text());
        BreatheAsOne x = new BreatheAsOne();
        for (int i = 0; i < 4; i++) c.due("text", Checks.text(x, "beat 1;"), i);
        Checks.tape(x, "bad");
        c.due("the fifth", x.text(), NONE);
        c.due("its bytes stay", x.about(11), 3);
        c.due("it was not read", x.fault(0), 0);
        c.due("THE IMAGE has none", x.back(), 0);
        c.due("so it is read now", x.text(), NONE);
        c.due("FAULT", x.fault(0), 1);
        c.due("the numbers begin anew", Checks.text(x, ""), 0);
    }

    private static void faultOfLatest() {
        c.sentence(8, "NONE ahead of any");
        for (int what : new int[] {LEAST, -1, 0, 1, 2, MOST}) {
            Twins.idle(c, "fault(" + what + ")", Halls.NEW, NONE, x -> x.fault(what));
        }
        BreatheAsOne x = new BreatheAsOne();
        Checks.tape(x, "bad");
        c.due("fed, but not read", x.fault(0), NONE);
        c.sentence(8, "Of the latest text that was read: 0 its FAULT (0 without), 1 its place (NONE without)");
        x.text();
        c.due("FAULT", x.fault(0), 1);
        c.due("at 0", x.fault(1), 0);
        Checks.text(x, "beat 1;");
        c.due("without", x.fault(0), 0);
        c.due("without", x.fault(1), NONE);
        Checks.text(x, "beat 0;");
        c.due("the latest", x.fault(0), 2);
        c.due("its place", x.fault(1), 5);
        Checks.text(x, " ".repeat(299) + "(");
        c.due("the last byte's place", x.fault(1), 299);
        Checks.text(x, " ".repeat(296) + "beat");
        c.due("the end of 300", x.fault(1), 300);
        c.sentence(8, "NONE for others");
        for (int what : new int[] {LEAST, -1, 2, MOST}) {
            Twins.idle(c, "fault(" + what + ")", Halls.BUSY, NONE, y -> y.fault(what));
        }
    }

    private static void theText() {
        c.sentence(9, "THE TEXT (NONE: none): true");
        BreatheAsOne x = Halls.full();
        for (int text : new int[] {0, 3, 3, NONE, NONE, 1}) {
            c.due("by(" + text + ")", x.by(text), true);
            c.due("THE TEXT", x.about(6), text);
        }
        c.due("it is no STEP", Halls.full().about(7), x.about(7));
        c.sentence(9, "False for others");
        for (int text : new int[] {LEAST, -2, 4, MOST}) {
            Twins.idle(c, "by(" + text + ") of 4", Halls.FULL, 0, y -> y.by(text) ? 1 : 0);
        }
        Twins.idle(c, "by(2) of 2", Halls.BUSY, 0, y -> y.by(2) ? 1 : 0);
        Twins.idle(c, "by(0) of none", Halls.NEW, 0, y -> y.by(0) ? 1 : 0);
        Twins.idle(c, "by(NONE) of none", Halls.NEW, 1, y -> y.by(NONE) ? 1 : 0);
    }

    private static void manyCalls() {
        c.sentence(0, "An object is used for at most 512 calls");
        BreatheAsOne x = Halls.busy();
        BreatheAsOne y = Halls.busy();
        for (int i = 0; i < 450; i++) x.image();
        c.due("a late call", x.fell(), y.fell());
        c.due("a late step", x.beat(1), 3);
        c.due("taken back", x.undo(), y.about(7));
    }

    public static void main(String[] args) {
        none();
        aNewObject();
        seatBlock();
        seatLag();
        tenSeats();
        personChest();
        personPulse();
        personStart();
        tenPeople();
        noteBeat();
        noteHigh();
        twelveNotes();
        feedOrder();
        feedRoom();
        endWithin();
        endBeyond();
        textRead();
        textFaulty();
        textFifth();
        faultOfLatest();
        theText();
        manyCalls();
        c.finish();
    }
}
