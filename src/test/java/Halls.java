/** Halls that many tests begin with. */
final class Halls {
    private static final int NONE = BreatheAsOne.NONE;

    static final Twins.Maker NEW = BreatheAsOne::new;
    static final Twins.Maker BUSY = Halls::busy;
    static final Twins.Maker FULL = Halls::full;

    private Halls() { }

    /** A little of everything: an image that is unlike what is now, a fault, a tape, and one person on no seat. */
    static BreatheAsOne busy() {
        BreatheAsOne x = new BreatheAsOne();
        x.seat(0, 2);
        x.seat(0, 0);
        x.seat(1, 3);
        x.seat(2, 9);
        x.person(5, 2, 0);
        x.person(3, 2, 1);
        x.person(4, 3, 0);
        x.person(2, 9, 17);
        x.note(0, 5);
        x.note(3, 5);
        Checks.text(x, "breath chest-time%3;passes lag+2;holds air+note>0;beat 3;cough 0;");
        for (int i = 0; i < 3; i++) x.sit(i, i);
        x.beside(0, 1);
        x.seen(0, 3, 1);
        x.image();
        Checks.text(x, "passes 10-block;holds air>=0-2;wake 2;");
        x.by(1);
        x.usher(1, true);
        x.cough(1);
        x.beat(2);
        x.be(2, 1);
        x.cough(0);
        x.beside(1, 2);
        x.seen(1, 2, 0);
        Checks.text(x, "bad");
        Checks.tape(x, "beat 7;");
        return x;
    }

    /** As many of each thing as there may be; the image has one text less, so that the tape can be read there. */
    static BreatheAsOne full() {
        BreatheAsOne x = new BreatheAsOne();
        for (int i = 0; i < 10; i++) x.seat(i % 4, i);
        for (int i = 0; i < 10; i++) x.person(1 + i % 9, 9 - i % 9, i == 9 ? 17 : i);
        for (int i = 0; i < 12; i++) x.note(i, 2 * i);
        Checks.text(x, "passes 10;breath chest-time%5;");
        Checks.text(x, "holds air>note;");
        Checks.text(x, "beat 1;cough 3;");
        x.by(0);
        for (int i = 0; i < 10; i++) x.sit(i, 9 - i);
        x.cough(0);
        x.beat(1);
        x.cough(5);
        for (int i = 0; i < 10; i++) x.be(i, 1 + i % 2);
        for (int i = 0; i < 4; i++) x.usher(i, true);
        for (int i = 0; i < 8; i++) {
            x.beside(i, i + 1);
            x.seen(i, 2 + i, i % 3 - 1);
        }
        x.image();
        x.beat(2);
        x.usher(1, false);
        x.change(0, 1);
        for (int i = 0; i < 5; i++) x.be(2 * i, 0);
        x.by(1);
        Checks.text(x, "sleep 0;");
        Checks.tape(x, "passes " + "-1".repeat(146) + ";");
        return x;
    }

    /** So many people, each on the seat of its number in block 0, lag 0, chest 1, pulse 1, start 0; and this law. */
    static BreatheAsOne row(int people, String law) {
        BreatheAsOne x = new BreatheAsOne();
        for (int i = 0; i < people; i++) {
            x.seat(0, 0);
            x.person(1, 1, 0);
            x.sit(i, i);
        }
        x.by(law.isEmpty() ? NONE : Checks.text(x, law));
        return x;
    }

    /** One person on a seat of block 0. */
    static BreatheAsOne one(int chest, int pulse, int start, int lag) {
        BreatheAsOne x = new BreatheAsOne();
        x.seat(0, lag);
        x.person(chest, pulse, start);
        x.sit(0, 0);
        return x;
    }

    /** The beat is brought to there by hand. */
    static void goTo(BreatheAsOne x, int beat) {
        for (int left = beat - x.about(3); left > 0; left -= 999) x.beat(Math.min(left, 999));
    }

    /** What X is after so many draws. */
    static int drawn(int x, int draws) {
        int now = x;
        for (int i = 0; i < draws; i++) now = (now * 277 + 173) % 30271;
        return now;
    }
}
