/** Each promise with answers that were reckoned by hand from the document. */
public final class PromisesTest {
    private static final int NONE = BreatheAsOne.NONE;
    private static final Checks c = new Checks();

    /**
     * Three who sit and two notes. Breaths at beats 0, 1, 2, 3: 5 of chest, lag 2: -5 -5 5 5; 3 of chest, ahead by 1: 3 -3 -3 3;
     * 4 of chest, pulse 3, lag 3: -4 -4 -4 4; so the air is -6 -12 -2 12.
     */
    private static BreatheAsOne hall() {
        BreatheAsOne x = new BreatheAsOne();
        x.seat(0, 2);
        x.seat(0, 0);
        x.seat(1, 3);
        x.person(5, 2, 0);
        x.person(3, 2, 1);
        x.person(4, 3, 0);
        for (int i = 0; i < 3; i++) x.sit(i, i);
        x.note(0, 5);
        x.note(3, 5);
        return x;
    }

    private static BreatheAsOne hall(String law) {
        BreatheAsOne x = hall();
        x.by(Checks.text(x, law));
        return x;
    }

    private static void newObject() {
        c.promise(1);
        BreatheAsOne x = new BreatheAsOne();
        int[] due = {0, 0, 0, 0, 71, 0, NONE, 0, 0, 0, 0, 0};
        for (int i = 0; i < due.length; i++) c.due("about(" + i + ")", x.about(i), due[i]);
        c.due("NONE", NONE, -1);
        x = hall();
        c.due("back()", x.back(), 0);
        for (int i = 0; i < due.length; i++) c.due("about(" + i + ") back at the new one", x.about(i), due[i]);
    }

    private static void telling() {
        BreatheAsOne x = new BreatheAsOne();
        c.promise(2);
        int[][] badSeats = {{-1, 0}, {4, 0}, {0, -1}, {0, 10}};
        for (int[] b : badSeats) c.due("seat", x.seat(b[0], b[1]), NONE);
        for (int i = 0; i < 10; i++) c.due("seat", x.seat(i % 4, i), i);
        c.due("the eleventh seat", x.seat(0, 0), NONE);
        c.due("seats", x.about(0), 10);
        c.promise(3);
        int[][] badPeople = {{0, 1, 0}, {10, 1, 0}, {1, 0, 0}, {1, 10, 0}, {1, 1, -1}, {1, 1, 18}};
        for (int[] b : badPeople) c.due("person", x.person(b[0], b[1], b[2]), NONE);
        for (int i = 0; i < 10; i++) c.due("person", x.person(1 + i % 9, 9 - i % 9, i == 9 ? 17 : i), i);
        c.due("the eleventh person", x.person(1, 1, 1), NONE);
        c.due("people", x.about(1), 10);
        c.promise(4);
        int[][] badNotes = {{-1, 0}, {10000, 0}, {0, -1}, {0, 100}};
        for (int[] b : badNotes) c.due("note", x.note(b[0], b[1]), NONE);
        for (int i = 0; i < 12; i++) c.due("note", x.note(i == 11 ? 9999 : i, i == 11 ? 99 : 0), i);
        c.due("the thirteenth note", x.note(1, 1), NONE);
        c.due("notes", x.about(2), 12);
    }

    private static void tape() {
        c.promise(5);
        BreatheAsOne x = new BreatheAsOne();
        for (int i = 1; i <= 15; i++) c.due("feed", x.feed(0, 0, 0, 0, 0), 20 * i);
        c.due("feed beyond", x.feed(0, 0, 0, 0, 0), NONE);
        c.due("bytes", x.about(11), 300);
        c.promise(6);
        c.due("end(301)", x.end(301), NONE);
        c.due("end(-1)", x.end(-1), NONE);
        c.due("end(281)", x.end(281), 281);
        c.due("end(282)", x.end(282), NONE);
        c.promise(5);
        c.due("feed, no room for twenty", x.feed(0, 0, 0, 0, 0), NONE);
        c.due("end(280)", x.end(280), 280);
        c.due("feed, just room", x.feed(0, 0, 0, 0, 0), 300);
        c.promise(6);
        c.due("end(0)", x.end(0), 0);
        c.promise(5);
        x.feed(0x62656174, 0x20373b20, 0x20202020, 0x20202020, 0x20202020);
        c.due("the highest byte comes first", x.text(), 0);
        x.played(0);
        c.due("beat 7;", x.about(3), 7);
    }

    private static void texts() {
        c.promise(7);
        BreatheAsOne x = new BreatheAsOne();
        c.due("an empty tape", x.text(), 0);
        c.due("a fault", Checks.text(x, "beat;"), NONE);
        c.due("the tape is read then", x.about(11), 0);
        c.due("wake 0;", Checks.text(x, "wake 0;"), 1);
        c.due("the tape is empty", x.about(11), 0);
        c.due("third", Checks.text(x, " \n"), 2);
        c.due("fourth", Checks.text(x, "breath 1;"), 3);
        Checks.tape(x, "bad");
        c.due("fifth", x.text(), NONE);
        c.due("the tape stays", x.about(11), 3);
        c.promise(8);
        c.due("it was not read", x.fault(0), 0);
        c.due("texts", x.about(5), 4);
        x.back();
        c.due("a fault", x.text(), NONE);
        c.due("fault(0)", x.fault(0), 1);
        c.due("fault(1)", x.fault(1), 0);
        c.due("fault(2)", x.fault(2), NONE);
        c.due("fault(-1)", x.fault(-1), NONE);
        x.text();
        c.due("fault(0) without", x.fault(0), 0);
        c.due("fault(1) without", x.fault(1), NONE);
        c.due("fault(0) ahead of any", new BreatheAsOne().fault(0), NONE);
        c.promise(9);
        c.due("by(1)", x.by(1), false);
        c.due("by(-2)", x.by(-2), false);
        c.due("by(0)", x.by(0), true);
        c.due("again", x.by(0), true);
        c.due("THE TEXT", x.about(6), 0);
        c.due("by(NONE)", x.by(NONE), true);
        c.due("THE TEXT", x.about(6), NONE);
    }

    private static void faults() {
        c.promise(8);
        Object[][] rows = {
            {"breath 1;passes 2;holds 3<4;", 0}, {"beat 1 ;\nbeat 999;", 0}, {"seat3lag9;one9pulse9start17;", 0},
            {"note 9999 high 99;sit 9 on 9;sleep 9;hold 9;usher 3;cough 9;", 0}, {"beat 00000001;", 0},
            {"breath - - - - - - - - 1;", 0}, {"breath - - - - - - - - - 1;", 3023},
            {"breath ((((((((1))))))));", 0}, {"breath (((((((((1)))))))));", 3015},
            {"holds not not not not not not not not 1<2;", 0}, {"holds not not not not not not not not not 1<2;", 3038},
            {"holds not not not not not not not not (1)<2;", 3038}, {"holds not not not not not not not not 1<-2;", 3040},
            {"breath middle((((((((1))))))),2,3);", 0}, {"breath middle((((((((1)))))))),2,3);", 1029},
            {"breath middle(((((((((1)))))))),2,3);", 3021}, {"breath ((((((((1))))))))+((((((((2))))))));", 0},
            {"breath -(-(-(-(middle(1,2,3)))));", 3015},
            {"holds not 1<2 or not 1<2 and not 1<2 or not 1<2 or not 1<2 or not 1<2 or not 1<2 or not 1<2 or not 1<2;", 0},
            {"breath", 1006}, {"breath  ", 1008}, {"breath ;", 1007}, {"breath 1", 1008}, {"breath 1 2;", 1009}, {"breath 1+;", 1009},
            {"breath +1;", 1007}, {"breath 1 10000;", 1009}, {"breath 10000;", 2007}, {"breath 99999999999999999999;", 2007},
            {"breath foo;", 1007}, {"breath Time;", 1007}, {"breath lag;", 5007}, {"breath seat;", 1007}, {"breath not 1;", 1007},
            {"passes lag;", 0}, {"passes air;", 5007}, {"passes note;", 5007}, {"holds note=high and air#beat;", 0},
            {"holds time=1;", 5006}, {"holds lag=1;", 5006}, {"holds asleep=1;", 5006}, {"holds pulse=1;", 5006},
            {"holds (1<2);", 1008}, {"holds 1<2<3;", 1009}, {"holds 1< =2;", 1009}, {"holds 1<=2;", 0}, {"holds 1>=2;", 0},
            {"holds 1=<2;", 1008}, {"holds 1;", 1007}, {"holds 1<2 or;", 1012}, {"holds 1<2 or 1;", 1014},
            {"breath middle(1,2);", 1017}, {"breath middle(1,2,3,4);", 1019}, {"breath middle 1;", 1014},
            {"breath 1;breath 2;", 4009}, {"passes 1;beat 1;passes 1;", 4016}, {"holds 1=1;holds", 4010},
            {"seat 4 lag 0;", 2005}, {"seat 0 lag 10;", 2011}, {"seat 0 log 1;", 1007}, {"seat 10000 lag", 2005}, {"seat lag", 1005},
            {"one 0 pulse", 2004}, {"one 10 pulse", 2004}, {"one 1 pulse 0", 2012}, {"one 1 pulse 1 start 18", 2020},
            {"note 10000 high", 2005}, {"note 0 high 100", 2012}, {"sit 10 on", 2004}, {"sit 0 on 10", 2009}, {"sit 0 1", 1006},
            {"usher 4;", 2006}, {"beat 0;", 2005}, {"beat 1000;", 2005}, {"cough 10;", 2006}, {"sleep -1;", 1006}, {"wake 10;", 2005},
            {"hold 10;", 2005}, {"air 1;", 1000}, {"7;", 1000}, {";", 1000}, {"breath 1;;", 1009}, {"breath 1!;", 1008},
            {"beatz 1;", 1000}, {"beatZ 1;", 1000}, {"beat 1;abeat", 1007}, {"beat 1;Abeat 1;", 1007}, {"beats 1;", 1000}, {"bea 1;", 1000},
            {"beat 0;", 2005}, {"beat 9;sleep 0;wake 0;hold 0;usher 0;cough 0;sit 0 on 0;seat 0 lag 0;note 0 high 0;", 0},
            {"one 1 pulse 1 start 0;", 0}, {"breath 0;", 0}, {"breath 9999;", 0}, {"holds 1 or 2;", 1008}, {"holds 1=1 and or", 1014},
            {"breath\t1;", 1006}, {"beat 1;\u00e9", 1007}, {"beat 1 ", 1007}, {"breath 1%2/3*4-5+6;", 0},
        };
        for (Object[] row : rows) c.due("a fault of " + row[0], Checks.faultOf((String) row[0]), (Integer) row[1]);
        String most = "beat 1;".repeat(24);
        c.due("24 clauses", Checks.faultOf(most), 0);
        c.due("25 clauses", Checks.faultOf(most + "beat 0;"), 6168);
        c.due("a 25th that is none", Checks.faultOf(most + "air 0;"), 1168);
        c.due("a 25th law again", Checks.faultOf("breath 1;" + "beat 1;".repeat(23) + "breath 1;"), 4170);
        c.due("299 blanks and a token", Checks.faultOf(" ".repeat(299) + ";"), 1299);
        c.due("300 bytes", Checks.faultOf("breath " + "1+".repeat(146) + ";"), 1299);
        c.due("300 bytes", Checks.faultOf("passes " + "-1".repeat(146) + ";"), 0);
        c.due("a 25th law", Checks.faultOf("breath 1;" + "beat 1;".repeat(23) + "holds 1;"), 6170);
    }

    private static void sitting() {
        c.promise(10);
        BreatheAsOne x = hall();
        c.due("its own", x.sit(0, 0), false);
        c.due("another's", x.sit(0, 1), false);
        c.due("no such person", x.sit(3, NONE), false);
        c.due("no such person", x.sit(-1, 0), false);
        c.due("no such seat", x.sit(0, 3), false);
        c.due("no such seat", x.sit(0, -2), false);
        c.due("gets up", x.sit(0, NONE), true);
        c.due("again", x.sit(0, NONE), false);
        c.due("its seat", x.of(0, 3), NONE);
        c.due("from seat to seat", x.sit(1, 0), true);
        c.due("who sits there", x.ofSeat(1, 2), NONE);
        c.due("steps", x.about(7), 5);
        c.promise(11);
        c.due("one has none", x.change(0, 1), false);
        c.due("itself", x.change(1, 1), false);
        c.due("no such", x.change(1, 3), false);
        c.due("no such", x.change(-1, 1), false);
        c.due("change", x.change(1, 2), true);
        c.due("seat of 1", x.of(1, 3), 2);
        c.due("seat of 2", x.of(2, 3), 0);
        c.due("steps", x.about(7), 6);
        c.promise(12);
        c.due("is so", x.be(0, 0), false);
        c.due("no such how", x.be(0, 3), false);
        c.due("no such how", x.be(0, -1), false);
        c.due("no such person", x.be(3, 1), false);
        c.due("sleeps", x.be(0, 1), true);
        c.due("how", x.of(0, 4), 1);
        c.due("holds", x.be(0, 2), true);
        c.due("wakes", x.be(0, 0), true);
        c.due("steps", x.about(7), 9);
        c.promise(13);
        c.due("is so", x.usher(0, false), false);
        c.due("no such block", x.usher(4, true), false);
        c.due("no such block", x.usher(-1, true), false);
        c.due("comes", x.usher(3, true), true);
        c.due("is so", x.usher(3, true), false);
        c.due("ushers", x.about(8), 8);
        c.due("goes", x.usher(3, false), true);
        c.due("ushers", x.about(8), 0);
        c.due("steps", x.about(7), 11);
    }

    private static void coughing() {
        c.promise(14);
        BreatheAsOne x = hall();
        // Draws 71 and 19840 pass it to both above; nobody is below.
        c.due("cough(0)", x.cough(0), 3);
        c.due("X", x.about(4), 16802);
        c.due("it does already", x.cough(1), NONE);
        c.due("no such", x.cough(3), NONE);
        c.due("no such", x.cough(-1), NONE);
        x.undo();
        // Up: 71 passes it to 2; down: 19840 to 0.
        c.due("cough(1)", x.cough(1), 3);
        c.due("up goes first", x.coughs(1, 0), 2);
        c.due("then down", x.coughs(2, 0), 0);
        x.undo();
        x.sit(1, NONE);
        c.due("an empty seat ends it", x.cough(0), 1);
        c.due("without a draw", x.about(4), 71);
        c.due("without a seat", x.cough(1), 1);
        c.due("X", x.about(4), 71);
        x = hall("passes 0;");
        c.due("none pass", x.cough(1), 1);
        c.due("two draws", x.about(4), 16802);
        x = hall("passes lag*5;");
        // Asked of who coughs: lag 2 of seat 0 always passes, lag 0 of seat 1 never.
        c.due("asked of who coughs", x.cough(0), 2);
        x = hall("passes 99;");
        x.cough(2);
        x.beat(1);
        c.due("again at another beat", x.cough(1), 3);
        x.undo();
        x.undo();
        x.undo();
        x.sit(1, NONE);
        x.cough(1);
        x.sit(1, 1);
        c.due("passed on by one who coughs already", x.cough(0), 2);
        c.due("coughs", x.coughs(-1, 0), 3);
    }

    private static void manyCoughs() {
        c.promise(14);
        BreatheAsOne x = hall("passes 10;");
        for (int i = 0; i < 6; i++) {
            c.due("cough(0)", x.cough(0), 3);
            x.beat(1);
        }
        int before = x.about(4);
        c.due("as they are kept", x.cough(1), 2);
        c.due("kept", x.coughs(-1, 0), 20);
        c.due("drawn all the same", x.about(4) != before, true);
        c.due("one that is not kept does not cough", x.cough(0), 0);
        c.due("steps", x.about(7), 3 + 6 + 6 + 2);
        c.due("the last is 2", x.coughs(19, 0), 2);
        c.due("at 6", x.coughs(19, 1), 6);
        c.promise(23);
        c.due("coughs(20, 0)", x.coughs(20, 0), -2);
        c.due("coughs(-2, 0)", x.coughs(-2, 0), -2);
        c.due("coughs(0, 2)", x.coughs(0, 2), -2);
        c.due("coughs(0, -1)", x.coughs(0, -1), -2);
        c.due("coughs(3, 1)", x.coughs(3, 1), 1);
        c.due("coughs(NONE, 0)", x.coughs(NONE, 0), 20);
    }

    private static void beats() {
        c.promise(15);
        BreatheAsOne x = new BreatheAsOne();
        c.due("beat(0)", x.beat(0), NONE);
        c.due("beat(1000)", x.beat(1000), NONE);
        c.due("beat(-1)", x.beat(-1), NONE);
        c.due("steps", x.about(7), 0);
        for (int i = 1; i <= 10; i++) c.due("beat(999)", x.beat(999), 999 * i);
        c.due("beyond 9999", x.beat(10), NONE);
        c.due("beat(9)", x.beat(9), 9999);
        c.due("beat(1)", x.beat(1), NONE);
        c.due("steps", x.about(7), 11);
    }

    private static void scripts() {
        c.promise(16);
        BreatheAsOne x = new BreatheAsOne();
        c.due("no such text", x.played(0), -2);
        c.due("no such text", x.played(-1), -2);
        Checks.text(x, "seat 2 lag 7;passes 0;one 8 pulse 6 start 4;note 5 high 6;sit 0 on 0;hold 0;sleep 0;usher 2;beat 8;cough 0;");
        c.due("played", x.played(0), NONE);
        int[] due = {1, 1, 1, 8, 71, 1, NONE, 6, 4, 0, 0, 0};
        for (int i = 0; i < due.length; i++) c.due("about(" + i + ")", x.about(i), due[i]);
        int[] person = {8, 6, 4, 0, 1, 8 + 4 - 7 - 3, 0};
        for (int i = 0; i < person.length; i++) c.due("of(0, " + i + ")", x.of(0, i), person[i]);
        // Again: the sit is not to be had (person 0 sits there), and its number counts the law.
        c.due("played again", x.played(0), 4);
        c.due("what was done stays", x.about(0), 2);
        Checks.text(x, "wake 0;wake 0;");
        c.due("wake", x.played(1), 1);
        Checks.text(x, "beat 1;cough 0;cough 0;");
        c.due("cough", x.played(2), 2);
        Checks.text(x, "usher 1;usher 2;");
        c.due("usher", x.played(3), 1);
        x.image();
        x = new BreatheAsOne();
        Checks.text(x, "one 1 pulse 1 start 0;");
        for (int i = 0; i < 10; i++) c.due("one", x.played(0), NONE);
        c.due("the eleventh", x.played(0), 0);
        Checks.text(x, "breath 1;seat 0 lag 0;sit 9 on 0;sit 8 on 1;");
        c.due("no such seat", x.played(1), 3);
        Checks.text(x, "");
        c.due("an empty one", x.played(2), NONE);
    }

    private static void seasons() {
        c.promise(17);
        BreatheAsOne x = new BreatheAsOne();
        x.seat(0, 0);
        c.due("without people", x.season(0, 1), NONE);
        x = hall();
        c.due("season(-1, 1)", x.season(-1, 1), NONE);
        c.due("season(10000, 1)", x.season(10000, 1), NONE);
        c.due("season(0, 0)", x.season(0, 0), NONE);
        c.due("season(0, 41)", x.season(0, 41), NONE);
        c.due("steps", x.about(7), 3);
        // 71 and 19840: beats go by.
        c.due("season(0, 2)", x.season(0, 2), 2);
        c.due("X", x.about(4), 16802);
        // 16802 mod 6 is 2: the usher of block 16802 mod 4 = 2.
        c.due("season(0, 3)", x.season(0, 3), 4);
        c.due("ushers", x.about(8), 4);
        c.due("season(0, 3)", x.season(0, 3), 6);
        c.due("it goes", x.about(8), 0);
        c.due("one step each", x.about(7), 6);
        // Seed 3: x = 80, 80 mod 6 is 2: the usher of block 0 comes.
        c.due("season(3, 1)", x.season(3, 1), 6);
        c.due("ushers", x.about(8), 1);
        // Seed 2: x = 77: a beat goes by.
        c.due("season(2, 1)", x.season(2, 1), 7);
        c.due("undo()", x.undo(), 7);
        c.due("X is as ahead of it", x.about(4), (80 * 277 + 173) % 30271);
        secondDraws();
    }

    /** What a season's second draw does. */
    private static void secondDraws() {
        BreatheAsOne x = new BreatheAsOne();
        x.person(1, 1, 0);
        x.person(2, 1, 0);
        x.person(3, 1, 0);
        x.person(4, 1, 0);
        // A season's first x is 2 or 5 mod 6, so the second one is looked at.
        int seed = seedOfSecond(0);
        x.season(seed, 2);
        for (int p = 0; p < 4; p++) c.due("without seats", x.of(p, 3), NONE);
        x.seat(0, 1);
        x.seat(0, 1);
        x.seat(0, 1);
        int drawn = second(seed);
        x.season(seed, 2);
        c.due("sits", x.of(drawn % 4, 3), drawn % 3);
        x.sit((drawn + 1) % 4, (drawn + 1) % 3);
        x.sit(drawn % 4, NONE);
        x.sit((drawn + 2) % 4, drawn % 3);
        x.season(seed, 2);
        c.due("somebody has it", x.of(drawn % 4, 3), NONE);
        seed = seedOfSecond(1);
        drawn = second(seed);
        x.be(drawn % 4, 2);
        x.season(seed, 2);
        c.due("x mod 3", x.of(drawn % 4, 4), 1);
        seed = seedOfSecond(3);
        drawn = second(seed);
        int beat = x.about(3) + ((seed * 3 + 71) % 6 > 3 ? 1 : 0);
        x.sit(drawn % 4, NONE);
        x.season(seed, 2);
        c.due("one cough", x.coughs(NONE, 0), 1);
        c.due("who", x.coughs(0, 0), drawn % 4);
        c.due("when", x.coughs(0, 1), beat);
        for (int i = 0; i < 11; i++) x.beat(999);
        x.beat(9999 - x.about(3));
        c.due("9999 stays", x.season(0, 2), 9999);
    }

    private static int second(int seed) { return ((seed * 3 + 71) * 277 + 173) % 30271; }

    private static int seedOfSecond(int mod) {
        int seed = 0;
        while (second(seed) % 6 != mod) seed++;
        return seed;
    }

    private static void undoing() {
        c.promise(18);
        BreatheAsOne x = new BreatheAsOne();
        c.due("none", x.undo(), NONE);
        x = hall();
        x.cough(0);
        x.beat(5);
        x.usher(2, true);
        x.be(1, 2);
        x.change(0, 2);
        c.due("undo the change", x.undo(), 7);
        c.due("seat", x.of(0, 3), 0);
        c.due("undo how", x.undo(), 6);
        c.due("how", x.of(1, 4), 0);
        c.due("undo the usher", x.undo(), 5);
        c.due("ushers", x.about(8), 0);
        c.due("undo the beats", x.undo(), 4);
        c.due("beat", x.about(3), 0);
        c.due("undo the cough", x.undo(), 3);
        c.due("coughs", x.coughs(NONE, 0), 0);
        c.due("X", x.about(4), 71);
        x.person(1, 1, 1);
        x.seat(0, 0);
        x.sit(3, 3);
        x.be(3, 1);
        c.due("undo", x.undo(), 4);
        x.be(3, 1);
        x.undo();
        x.undo();
        x.be(3, 2);
        x.be(3, 1);
        c.due("a person told since", x.undo(), 4);
        c.due("how", x.of(3, 4), 2);
        x.undo();
        x.undo();
        c.due("seat of 2", x.of(2, 3), NONE);
        x.sit(2, 3);
        x.undo();
        x.person(2, 2, 2);
        x.beat(1);
        x.sit(4, 3);
        x.undo();
        c.due("on none", x.of(4, 3), NONE);
        c.due("people stay", x.about(1), 5);
        x = new BreatheAsOne();
        x.beat(1);
        x.person(1, 1, 1);
        x.seat(1, 1);
        x.image();
        x.be(0, 1);
        x.sit(0, 0);
        for (int i = 0; i < 35; i++) x.beat(1);
        c.due("thirty at most", x.about(7), 30);
        for (int i = 29; i >= 0; i--) c.due("undo", x.undo(), i);
        c.due("none more", x.undo(), NONE);
        c.due("beat", x.about(3), 6);
        x.back();
        x.be(0, 1);
        x.sit(0, 0);
        x.undo();
        x.undo();
        c.due("the beat ahead of all", x.undo(), 0);
        c.due("told since: awake", x.of(0, 4), 0);
    }

    private static void looking() {
        c.promise(19);
        BreatheAsOne x = hall();
        int[][] due = {{5, 2, 0, 0, 0, -2, -5}, {3, 2, 1, 1, 0, 1, 3}, {4, 3, 0, 2, 0, -3, -4}};
        for (int p = 0; p < 3; p++) for (int w = 0; w < 7; w++) c.due("of(" + p + ", " + w + ")", x.of(p, w), due[p][w]);
        int[][] bad = {{3, 0}, {-1, 0}, {0, 7}, {0, -1}};
        for (int[] b : bad) c.due("of", x.of(b[0], b[1]), -100000);
        x.usher(1, true);
        c.due("time by an usher", x.of(2, 5), 0);
        c.due("breath by an usher", x.of(2, 6), 4);
        x.be(2, 2);
        c.due("time of one who holds", x.of(2, 5), 0);
        c.due("breath of one who holds", x.of(2, 6), 0);
        x.be(2, 1);
        c.due("time asleep: half of 3 is 1", x.of(2, 5), -4);
        c.due("breath asleep", x.of(2, 6), 4);
        x.sit(2, NONE);
        c.due("time on no seat", x.of(2, 5), -1);
        c.due("breath on no seat", x.of(2, 6), 0);
        c.promise(20);
        int[][] seats = {{0, 2, 0}, {0, 0, 1}, {1, 3, NONE}};
        for (int s = 0; s < 3; s++) for (int w = 0; w < 3; w++) c.due("ofSeat(" + s + ", " + w + ")", x.ofSeat(s, w), seats[s][w]);
        for (int[] b : bad) c.due("ofSeat", x.ofSeat(b[0], b[1]), -2);
        c.due("ofSeat(0, 3)", x.ofSeat(0, 3), -2);
        c.promise(21);
        x = hall();
        int[][] notes = {{0, 5, -6, 0}, {3, 5, 12, 1}};
        for (int n = 0; n < 2; n++) for (int w = 0; w < 4; w++) c.due("ofNote(" + n + ", " + w + ")", x.ofNote(n, w), notes[n][w]);
        int[][] badNotes = {{2, 0}, {-1, 0}, {0, 4}, {0, -1}};
        for (int[] b : badNotes) c.due("ofNote", x.ofNote(b[0], b[1]), -100000);
        c.promise(22);
        int[] airs = {-6, -12, -2, 12};
        for (int b = 0; b < 4; b++) c.due("air(" + b + ")", x.air(b), airs[b]);
        c.due("air(-1)", x.air(-1), -100000);
        c.due("air(10000)", x.air(10000), -100000);
        // Times 9997, 10000 and 9996.
        c.due("air(9999)", x.air(9999), 12);
        x.cough(0);
        c.due("all cough", x.air(0), 0);
        c.due("not at the next", x.air(1), -12);
    }

    private static void laws() {
        c.promise(19);
        String[][] rows = {
            {"breath beat*10+chest;", "5"}, {"breath 0-99;", "-9"}, {"breath 99;", "9"}, {"breath time;", "-2"}, {"breath pulse;", "2"},
            {"breath block+asleep;", "0"}, {"breath 7/2;", "3"}, {"breath -7/2;", "-3"}, {"breath -7%4;", "-3"}, {"breath 7% -4;", "3"},
            {"breath 7/0+7%0;", "0"}, {"breath 2+3*2;", "8"}, {"breath (2+1)*2;", "6"}, {"breath 9-3-2;", "4"}, {"breath 8/4/2;", "1"},
            {"breath 9999*9999*9999-9999*9999+3;", "3"}, {"breath 0-9999*9999-5+9999*9999+3;", "3"}, {"breath 9999*9999/(200*1000);", "5"},
            {"breath middle(1,2,3);", "2"}, {"breath middle(3,1,2);", "2"}, {"breath middle(2,3,1);", "2"}, {"breath middle(3,2,1);", "2"},
            {"breath middle(1,3,2);", "2"}, {"breath middle(2,1,3);", "2"}, {"breath middle(4,4,1);", "4"}, {"breath - -4;", "4"},
            {"breath -2*-3;", "6"}, {"breath 1+middle(chest,time,pulse)*2;", "5"},
        };
        for (String[] row : rows) c.due(row[0], hall(row[0]).of(0, 6), Integer.parseInt(row[1]));
        String deep = "middle(0,9,1+1*".repeat(8) + "0" + ")".repeat(8);
        c.due("the deepest", hall("breath 0+1*" + deep + ";").of(0, 6), 8);
        c.due("the deepest", hall("holds 1=2 or 1=1 and 0-1=0-1*" + deep + "+7;").fell(), 0);
        BreatheAsOne x = hall("breath block*3+asleep;passes 1;");
        c.due("block", x.of(2, 6), 3);
        x.be(2, 1);
        c.due("asleep", x.of(2, 6), 4);
        c.promise(21);
        String[][] asks = {
            {"holds air=0-6;", "10"}, {"holds high=5 and beat=3;", "01"}, {"holds note=0;", "10"}, {"holds not note=0;", "01"},
            {"holds not not note=0;", "10"}, {"holds note<1;", "10"}, {"holds note<=0;", "10"}, {"holds note>0;", "01"},
            {"holds note>=1;", "01"}, {"holds note#1;", "10"}, {"holds 1=1 or 1=1 and 1=2;", "11"}, {"holds 1=2 and 1=1 or note=1;", "01"},
            {"holds 1=2 or 1=2 or note=1 and 1=1;", "01"}, {"holds note=1 and 1=1 and 1=1;", "01"}, {"holds not 1=2 and 1=2;", "00"},
            {"breath 1;", "00"},
        };
        for (String[] row : asks) {
            x = hall(row[0]);
            c.due(row[0], 10 * x.ofNote(0, 3) + x.ofNote(1, 3), Integer.parseInt(row[1]));
        }
    }

    private static void falling() {
        c.promise(24);
        BreatheAsOne x = hall();
        c.due("fell()", x.fell(), 1);
        c.due("without notes", new BreatheAsOne().fell(), 0);
        c.promise(25);
        c.due("whoIsOut(1)", x.whoIsOut(1), 3);
        c.due("whoIsOut(3)", x.whoIsOut(3), 4);
        c.due("whoIsOut(0)", x.whoIsOut(0), 0);
        c.due("whoIsOut(4)", x.whoIsOut(4), NONE);
        c.due("whoIsOut(-1)", x.whoIsOut(-1), NONE);
        x.be(0, 2);
        // Who holds would sleep: air 4 and 12 again.
        c.due("who holds", x.whoIsOut(1) & 1, 1);
        x.be(0, 1);
        // Asleep 5 3 -4 and 5 3 4: note 0 falls by 1; awake -6.
        c.due("who sleeps would wake", x.whoIsOut(1) & 1, 1);
        x.person(1, 1, 1);
        c.due("on no seat: as all is", x.whoIsOut(x.fell()) >> 3, 1);
        c.promise(26);
        x = hall();
        c.due("hiccupped(3, NONE)", x.hiccupped(3, NONE), 0);
        c.due("hiccupped(1, NONE)", x.hiccupped(1, NONE), 6);
        int[] all = {0, 1, 100, 101, 200, 201};
        for (int i = 0; i < 6; i++) c.due("hiccupped(1, " + i + ")", x.hiccupped(1, i), all[i]);
        c.due("hiccupped(1, 6)", x.hiccupped(1, 6), NONE);
        c.due("hiccupped(1, -2)", x.hiccupped(1, -2), NONE);
        c.due("hiccupped(4, NONE)", x.hiccupped(4, NONE), NONE);
        c.due("hiccupped(-1, NONE)", x.hiccupped(-1, NONE), NONE);
        x.note(3, 8);
        x.note(3, 9);
        // At beat 3: without 0 the air is 7 (notes 2, 3 fall), without 1 it is 9, without 2 it is 8 (note 3 falls).
        c.due("notes at one beat", x.hiccupped(13, NONE), 3);
        c.due("the first", x.hiccupped(13, 0), 1);
        c.due("the third", x.hiccupped(13, 2), 3);
        c.due("hiccupped(9, 1)", x.hiccupped(9, 1), 202);
        x.sit(2, NONE);
        x.cough(2);
        // Notes 0 and 3 fall: also if 0 or 1 hiccups at beat 0, or 2, that has no seat, at beat 3.
        c.due("it coughs as it is", x.hiccupped(9, NONE), 1 + 1 + 3);
    }

    private static void seatingThem() {
        c.promise(27);
        BreatheAsOne x = hall();
        c.due("as they sit one holds", x.seated(3, 3, NONE), 1);
        c.due("seat of 0", x.seated(3, 3, 0), 0);
        c.due("seat of 1", x.seated(3, 3, 1), 1);
        c.due("not of the set", x.seated(3, 3, 2), NONE);
        c.due("no such", x.seated(3, 3, 3), NONE);
        c.due("not as many", x.seated(3, 1, NONE), NONE);
        c.due("none", x.seated(0, 0, NONE), NONE);
        c.due("people not told", x.seated(8, 1, NONE), NONE);
        c.due("seats not told", x.seated(1, 8, NONE), NONE);
        c.due("below 0", x.seated(-1, 1, NONE), NONE);
        c.due("below 0", x.seated(1, -1, NONE), NONE);
        // Person 2 alone on seat 1: time is beat, 4 at beats 0 .. 2, -4 at 3; 1 gets up: 0 alone has -5, 5.
        BreatheAsOne y = hall("holds air=0-1 or note=1 and air=1;");
        c.due("another gets up", y.seated(4, 2, NONE), 2);
        // Two on two: 0 on seat 1 and 1 on seat 0 is the one way in which note 0 holds: 5 3 and then -4 of 2.
        y = hall("holds note=0 and air=0;");
        // 0 on 1: time 0, 5; 1 on 0: time -1, -3; with -4: -2. As they sit: -6.
        c.due("none hold", y.seated(3, 3, NONE), 0);
        c.due("of like ones the lowest seat", y.seated(3, 3, 0), 0);
        y = hall("holds note=0 and air=0-2;");
        c.due("changed", y.seated(3, 3, NONE), 1);
        c.due("seat of 0", y.seated(3, 3, 0), 1);
        c.due("seat of 1", y.seated(3, 3, 1), 0);
        for (int i = 0; i < 3; i++) {
            x.seat(3, 0);
            x.person(1, 1, 0);
        }
        c.due("six are too many", x.seated(63, 63, NONE), NONE);
        c.due("five", x.seated(31, 62, 4) > 0, true);
        c.due("changes nothing", x.of(0, 3), 0);
    }

    private static void ushering() {
        c.promise(28);
        BreatheAsOne x = hall();
        c.due("held already", x.ushers(2), 0);
        // Usher 0: 5 3 -4 = 4; usher 1: -5 3 4 = 2; both 12.
        c.due("ushers(1)", x.ushers(1), 3);
        // At beat 3: usher 0: -5 3 4; usher 1: 5 3 -4.
        c.due("ushers(3)", x.ushers(3), NONE);
        c.due("ushers(0)", x.ushers(0), 0);
        c.due("ushers(4)", x.ushers(4), NONE);
        c.due("ushers(-1)", x.ushers(-1), NONE);
        x.usher(1, true);
        c.due("one that is there now is told, too", x.ushers(1), 3);
        x.usher(0, true);
        c.due("both that are there now are told", x.ushers(1), 3);
        // At beat 3 with both: -5 3 -4; without any: 5 3 4.
        c.due("it falls by those there are", x.fell() & 2, 2);
        c.due("those there are do not count", x.ushers(2), 0);
        c.due("none for no notes", x.ushers(0), 0);
        c.due("both together never hold", x.ushers(3), NONE);
        c.due("changes nothing", x.about(8), 3);
        x = hall("holds air=4 or air=2;");
        x.usher(1, true);
        c.due("it holds by the one there is", x.fell() & 1, 0);
        c.due("yet the lowest of like ones", x.ushers(1), 1);
        x = hall("holds air=4 or air=2;");
        c.due("of like ones the lowest", x.ushers(1), 1);
        x = hall("holds block=9;");
        c.due("no such law", x.about(6), NONE);
        x = new BreatheAsOne();
        for (int i = 0; i < 3; i++) {
            x.seat(i, 1);
            x.person(i == 2 ? 2 : 1, 1, 0);
            x.sit(i, i);
        }
        x.note(0, 0);
        // Each is out without an usher and in with one: both of 0 and 1 do, and 2 alone does.
        c.due("the fewest ahead of the lowest", x.ushers(1), 4);
        c.promise(29);
        x = hall();
        c.due("cannot()", x.cannot(), 0);
        c.due("without notes", new BreatheAsOne().cannot(), 0);
        x.note(0, 12);
        x.note(0, 13);
        c.due("above all air", x.cannot(), 8);
        x.note(3, 12);
        x.usher(0, true);
        c.due("by no ushers too", x.cannot(), 8);
        // Beat 1: -5 -3 -4; usher 0: 5 -3 -4; usher 1: -5 -3 4; both: 5 -3 4 = 6; and 1 asleep 3: 12.
        x.note(1, 12);
        x.note(1, 13);
        c.due("one being otherwise", x.cannot(), 8 | 64);
        // Beat 2, nobody otherwise: 5 -3 -4, -5 -3 -4, 5 -3 4, -5 -3 4; 1 asleep is -3, too; 0 asleep -5, 2 asleep 2 - 4: -4.
        x.note(2, 6);
        x.note(2, 7);
        c.due("6 at most at beat 2", x.cannot(), 8 | 64 | 256);
    }

    private static void shifting() {
        c.promise(30);
        BreatheAsOne x = hall();
        c.due("shift(false)", x.shift(false), 0);
        c.due("shift(true)", x.shift(true), 1);
        c.due("none", new BreatheAsOne().shift(false), 0);
        c.due("none", new BreatheAsOne().shift(true), 0);
        x = new BreatheAsOne();
        x.seat(0, 0);
        x.person(5, 3, 0);
        x.sit(0, 0);
        // In at 0 1 2 6 7 8, out at 3 4 5 ..
        x.note(2, 5);
        x.note(4, 5);
        x.note(5, 5);
        c.due("least s", x.shift(false), 2);
        c.due("how many", x.shift(true), 2);
        x.note(9999, 1);
        // 9999 is out, 10002 in: s = 3 has notes at 5 7 8 10002.
        c.due("beyond 9999", x.shift(false), 3);
        c.due("how many", x.shift(true), 3);
        x.by(Checks.text(x, "holds beat=21 and note=1 or beat<0;"));
        c.due("the law sees the later beat", x.shift(false), 17);
        c.due("one", x.shift(true), 1);
    }

    private static void together() {
        c.promise(31);
        BreatheAsOne x = hall();
        c.due("inTime(0)", x.inTime(0), 1);
        c.due("inTime(3)", x.inTime(3), NONE);
        c.due("inTime(-1)", x.inTime(-1), NONE);
        c.promise(32);
        c.due("choir()", x.choir(), 1);
        c.due("nobody", new BreatheAsOne().choir(), 0);
        c.promise(31);
        // Times at 0: -2 and 1; pulse 2: alike by 4. One on no seat with start 2 is in time with 0, start 6 as well.
        x.person(9, 2, 2);
        x.person(9, 2, 6);
        x.person(9, 3, 2);
        c.due("inTime(0)", x.inTime(0), 1 | 8 | 16);
        c.due("inTime(4)", x.inTime(4), 1 | 8 | 16);
        c.due("inTime(1)", x.inTime(1), 2);
        x.be(1, 1);
        // 1 asleep has time 0, 0 with an usher too.
        x.usher(0, true);
        c.due("ushers and sleep count", x.inTime(0), 3);
        x.beat(1);
        c.due("at beat 0", x.inTime(0), 3);
        c.promise(32);
        c.due("choir()", x.choir(), 2);
        x.usher(0, false);
        c.due("choir()", x.choir(), 3);
    }

    private static void draughts() {
        c.promise(33);
        BreatheAsOne x = hall();
        long[][] due = {{1, 1}, {3, 10}, {9, 100}, {3, 10}, {1, 1}, {3, 10}, {9, 100}, {3, 10}, {1, 1}};
        for (int f = 0; f < 3; f++) {
            for (int t = 0; t < 3; t++) {
                c.due("comes upper " + f + t, x.comes(f, t, false), due[3 * f + t][0]);
                c.due("comes lower " + f + t, x.comes(f, t, true), due[3 * f + t][1]);
            }
        }
        c.due("no such", x.comes(3, 0, false), NONE);
        c.due("no such", x.comes(0, -1, true), NONE);
        x.sit(1, NONE);
        c.due("an empty seat between", x.comes(0, 2, false), 0);
        c.due("0 by 1", x.comes(0, 2, true), 1);
        c.due("on no seat", x.comes(0, 1, true), 1);
        c.due("on no seat", x.comes(1, 0, false), 0);
        c.due("itself on no seat", x.comes(1, 1, false), 1);
        x = hall("passes lag*4;");
        // 8 of 0, 0 of 1, 10 (of 12) of 2.
        c.due("4 by 5", x.comes(0, 1, false), 4);
        c.due("4 by 5", x.comes(0, 1, true), 5);
        c.due("none by 1", x.comes(0, 2, false), 0);
        c.due("none by 1", x.comes(0, 2, true), 1);
        c.due("always", x.comes(2, 1, false), 1);
        c.due("always", x.comes(2, 1, true), 1);
        x = new BreatheAsOne();
        for (int i = 0; i < 10; i++) {
            x.seat(0, 0);
            x.person(1, 1, 0);
            x.sit(i, i);
        }
        c.due("nine draughts", x.comes(0, 9, false), 19683);
        c.due("nine draughts", x.comes(9, 0, true), 1000000000L);
    }

    private static void airNeeded() {
        c.promise(34);
        BreatheAsOne x = hall();
        int[] due = {12, 12, -12, 3};
        for (int w = 0; w < 4; w++) c.due("needed(4, " + w + ")", x.needed(4, w), due[w]);
        int[] one = {0, -6, -6, 0};
        for (int w = 0; w < 4; w++) c.due("needed(1, " + w + ")", x.needed(1, w), one[w]);
        x.beat(2);
        int[] later = {12, 12, -2, 1};
        for (int w = 0; w < 4; w++) c.due("needed(2, " + w + ")", x.needed(2, w), later[w]);
        c.due("needed(0, 0)", x.needed(0, 0), -100000);
        c.due("needed(201, 0)", x.needed(201, 0), -100000);
        c.due("needed(1, 4)", x.needed(1, 4), -100000);
        c.due("needed(1, -1)", x.needed(1, -1), -100000);
        x = new BreatheAsOne();
        x.seat(0, 0);
        x.person(7, 1, 0);
        x.sit(0, 0);
        c.due("200 beats", x.needed(200, 0), 700);
        c.due("the first of like ones", x.needed(200, 3), 0);
        for (int i = 0; i < 10; i++) x.beat(999);
        x.beat(9);
        c.due("beyond 9999", x.needed(2, 0), 7);
        c.due("beyond 9999", x.needed(2, 3), 1);
    }

    private static void duels() {
        c.promise(35);
        BreatheAsOne x = hall();
        c.due("duel(0, 1, 1, false)", x.duel(0, 1, 1, false), 1);
        c.due("duel(0, 1, 1, true)", x.duel(0, 1, 1, true), 0);
        c.due("duel(1, 0, 1, false)", x.duel(1, 0, 1, false), 0);
        c.due("duel(1, 0, 1, true)", x.duel(1, 0, 1, true), NONE);
        c.due("it falls already", x.duel(0, 1, 0, false), 0);
        c.due("it falls already", x.duel(0, 1, 0, true), NONE);
        c.due("nobody there", x.duel(3, 0, 1, false), 0);
        c.due("nobody against", x.duel(0, 3, 1, true), 0);
        int[][] bad = {{0, 0, 0}, {-1, 0, 0}, {0, 4, 0}, {4, 0, 0}, {0, 1, 2}, {0, 1, -1}};
        for (int[] b : bad) c.due("duel", x.duel(b[0], b[1], b[2], false), -2);
        // All that sleep breathe 0 by this law, the others 1: a side of n and one of m, and the air that is needed.
        c.due("one each, no need", sides(1, 1, 0).duel(0, 1, 0, false), 0);
        c.due("two and one", sides(2, 1, 0).duel(0, 1, 0, false), 1);
        c.due("two and two", sides(2, 2, 0).duel(0, 1, 0, false), 0);
        c.due("the second makes it fall", sides(1, 1, 1).duel(0, 1, 0, false), 1);
        c.due("two more may sleep", sides(2, 2, 2).duel(0, 1, 0, false), 0);
        c.due("three may sleep", sides(2, 2, 1).duel(0, 1, 0, false), 1);
        c.due("five at most", sides(6, 4, 0).duel(0, 1, 0, false), 1);
        c.due("five at most and five", sides(5, 5, 0).duel(0, 1, 0, false), 0);
        BreatheAsOne y = sides(2, 1, 0);
        y.be(0, 1);
        c.due("one sleeps already", y.duel(0, 1, 0, false), 0);
        y.be(0, 2);
        c.due("one who holds can be put asleep", y.duel(0, 1, 0, true), 0);
        // Only by person 2 it goes on holding.
        y = sides(3, 0, 0);
        y.by(Checks.text(y, "breath middle(0,1,chest-2)*(1-asleep);holds air>0;"));
        c.due("the lowest by whom", y.duel(0, 1, 0, true), 0);
        y.by(Checks.text(y, "breath asleep*(chest-2);holds air>=0;"));
        c.due("the lowest by whom", y.duel(0, 1, 0, true), 1);
    }

    /** Those of block 0 first, chests 1, 2, ..; a note that holds while so many are awake. */
    private static BreatheAsOne sides(int first, int second, int awake) {
        BreatheAsOne x = new BreatheAsOne();
        for (int i = 0; i < first + second; i++) {
            x.seat(i < first ? 0 : 1, 0);
            x.person(Math.min(9, i + 1), 1, 0);
            x.sit(i, i);
        }
        x.note(0, awake);
        x.by(Checks.text(x, "breath 1-asleep;"));
        return x;
    }

    private static void chairs() {
        c.promise(36);
        BreatheAsOne x = hall();
        c.due("beside(0, 0)", x.beside(0, 0), -2);
        c.due("beside(0, 3)", x.beside(0, 3), -2);
        c.due("beside(-2, 0)", x.beside(-2, 0), -2);
        c.due("beside(0, NONE)", x.beside(0, NONE), -2);
        c.due("beside(0, 1)", x.beside(0, 1), 1);
        c.promise(37);
        c.due("chairs(7, NONE, 0)", x.chairs(7, NONE, 0), 4);
        c.due("chairs(7, 2, 1)", x.chairs(7, 2, 1), 0);
        c.due("chairs(7, 2, 0)", x.chairs(7, 2, 0), 2);
        c.due("chairs(7, 0, 1)", x.chairs(7, 0, 1), 2);
        c.due("of one of them alone", x.chairs(5, NONE, 0), 2);
        c.due("one", x.chairs(2, 1, 0), 1);
        c.due("no such seat", x.chairs(7, 2, 3), NONE);
        c.due("no such seat", x.chairs(7, 2, -1), NONE);
        c.due("not of the set", x.chairs(3, 2, 0), NONE);
        c.due("none", x.chairs(0, NONE, 0), NONE);
        c.due("not told", x.chairs(8, NONE, 0), NONE);
        c.due("below 0", x.chairs(-1, NONE, 0), NONE);
        c.promise(36);
        c.due("beside(1, 2)", x.beside(1, 2), 2);
        c.promise(37);
        c.due("1 between", x.chairs(7, NONE, 0), 2);
        c.due("1 between", x.chairs(7, 1, 1), 2);
        x.beside(0, 2);
        c.due("all beside one another", x.chairs(7, NONE, 0), 0);
        c.promise(36);
        for (int i = 4; i <= 8; i++) c.due("beside", x.beside(1, 0), i);
        c.due("the ninth", x.beside(1, 0), -2);
        c.due("told", x.about(9), 8);
        c.due("none any more", x.beside(NONE, 7), 0);
        c.due("told", x.about(9), 0);
        c.promise(37);
        c.due("all", x.chairs(7, NONE, 0), 6);
        for (int i = 0; i < 3; i++) x.person(1, 1, 1);
        c.due("five", x.chairs(31, NONE, 0), 120);
        c.due("six", x.chairs(63, NONE, 0), NONE);
        x.beside(3, 4);
        c.due("five, two beside", x.chairs(31, NONE, 9), 48);
    }

    private static void whoseLaws() {
        c.promise(38);
        BreatheAsOne x = hall();
        c.due("no texts", x.whoseLaw(1), 0);
        Checks.text(x, "holds air>0;");
        Checks.text(x, "holds note=0;");
        Checks.text(x, "breath 9;");
        Checks.text(x, "breath 0;holds 1=1;");
        c.due("note 0 falls", x.whoseLaw(1), 1 | 4);
        c.due("note 1 falls", x.whoseLaw(2), 2);
        c.due("none falls", x.whoseLaw(0), 8);
        c.due("both", x.whoseLaw(3), 0);
        x.by(2);
        c.due("breath as THE TEXT says", x.whoseLaw(0), 1 | 4 | 8);
        c.due("whoseLaw(4)", x.whoseLaw(4), NONE);
        c.due("whoseLaw(-1)", x.whoseLaw(-1), NONE);
    }

    private static void seeing() {
        c.promise(39);
        BreatheAsOne x = hall();
        int[][] bad = {{3, 0, 0}, {-2, 0, 0}, {0, -1, 0}, {0, 10000, 0}, {0, 0, 2}, {0, 0, -2}};
        for (int[] b : bad) c.due("seen", x.seen(b[0], b[1], b[2]), -2);
        c.promise(40);
        c.due("all", x.starts(0), (1 << 18) - 1);
        c.due("starts(3)", x.starts(3), NONE);
        c.due("starts(-1)", x.starts(-1), NONE);
        c.promise(39);
        c.due("seen", x.seen(0, 3, 1), 1);
        c.promise(40);
        // Time 3 + s - 2 mod 4 is 0 or 1: s mod 4 is 3 or 0.
        int due = 0;
        for (int s = 0; s < 18; s++) if (s % 4 == 3 || s % 4 == 0) due |= 1 << s;
        c.due("starts(0)", x.starts(0), due);
        c.due("of others all", x.starts(1), (1 << 18) - 1);
        x.seen(0, 4, -1);
        due = 0;
        for (int s = 0; s < 18; s++) if (s % 4 == 0) due |= 1 << s;
        c.due("two seen", x.starts(0), due);
        x.be(0, 2);
        c.due("holds now", x.starts(0), 0);
        x.undo();
        x.usher(0, true);
        due = 0;
        for (int s = 0; s < 18; s++) if (s % 4 == 2) due |= 1 << s;
        c.due("by an usher", x.starts(0), due);
        c.promise(39);
        for (int i = 3; i <= 8; i++) c.due("seen", x.seen(1, 9999, 0), i);
        c.due("the ninth", x.seen(1, 0, 0), -2);
        c.due("seen", x.about(10), 8);
        c.promise(40);
        c.due("neither", x.starts(1), 0);
        x.sit(1, NONE);
        c.due("on no seat", x.starts(1), (1 << 18) - 1);
        c.promise(39);
        c.due("none any more", x.seen(NONE, -5, 9), 0);
        c.due("seen", x.about(10), 0);
    }

    private static void images() {
        c.promise(41);
        BreatheAsOne x = hall("breath 1;");
        x.beat(4);
        x.cough(1);
        x.beside(0, 1);
        x.seen(0, 0, 1);
        x.usher(2, true);
        c.due("image()", x.image(), 4);
        int[] before = new int[11];
        for (int i = 0; i < 11; i++) before[i] = x.about(i);
        x.seat(0, 0);
        x.person(1, 1, 1);
        x.sit(3, 3);
        x.be(3, 1);
        x.note(1, 1);
        Checks.text(x, "passes 3;");
        x.by(NONE);
        x.beside(NONE, 0);
        x.beside(1, 2);
        x.seen(NONE, 0, 0);
        x.seen(1, 3, -1);
        for (int i = 0; i < 40; i++) x.undo();
        x.beat(7);
        x.cough(2);
        x.season(5, 20);
        Checks.text(x, "bad");
        Checks.tape(x, "beat 1;");
        c.promise(42);
        c.due("back()", x.back(), 4);
        for (int i = 0; i < 11; i++) c.due("about(" + i + ")", x.about(i), before[i]);
        c.due("the tape is not of it", x.about(11), 7);
        c.due("the fault is not of it", x.fault(0), 1);
        c.due("cough", x.coughs(0, 0), 1);
        c.due("at 4", x.coughs(0, 1), 4);
        c.due("0 beside 1: never 2 between", x.chairs(7, 2, 1), 0);
        c.due("but 0", x.chairs(7, 0, 1), 2);
        // Seen: 0 in at 0; by this law all breathe 1 but who coughs.
        c.due("seen of 0", x.starts(0), (1 << 18) - 1);
        x.by(NONE);
        c.due("seen of 0 at 0: start less 2 is 0 or 1 by 4", x.starts(0), 0b001100110011001100);
        c.due("of 1 nothing", x.starts(1), (1 << 18) - 1);
        c.due("by(0)", x.by(0), true);
        c.due("THE TEXT", x.air(0), 3);
        x.person(1, 1, 1);
        c.due("a new one", x.of(3, 3), NONE);
        c.due("a new one", x.of(3, 4), 0);
        c.due("undo", x.undo(), before[7] - 1);
        c.due("ushers", x.about(8), 0);
        c.due("it stays", x.back(), 4);
        c.due("ushers", x.about(8), 4);
        c.due("a text's number", x.text(), 1);
        c.promise(43);
        c.due("about(12)", x.about(12), -2);
        c.due("about(-1)", x.about(-1), -2);
        int[] due = {3, 3, 2, 4, before[4], 2, 0, 6, 4, 1, 1, 0};
        for (int i = 0; i < due.length; i++) c.due("about(" + i + ")", x.about(i), due[i]);
    }

    public static void main(String[] args) {
        newObject();
        telling();
        tape();
        texts();
        faults();
        sitting();
        coughing();
        manyCoughs();
        beats();
        scripts();
        seasons();
        undoing();
        looking();
        laws();
        falling();
        seatingThem();
        ushering();
        shifting();
        together();
        draughts();
        airNeeded();
        duels();
        chairs();
        whoseLaws();
        seeing();
        images();
        c.finish();
    }
}
