/** Part II of the document: each sentence that names an edge of tokens, clauses, faults and of what a law reckons. */
public final class EdgesTextsTest {
    private static final int NONE = BreatheAsOne.NONE;
    private static final String[] FORMS = {
        "seat 0-3 lag 0-9 ;", "one 1-9 pulse 1-9 start 0-17 ;", "note 0-9999 high 0-99 ;", "sit 0-9 on 0-9 ;", "sleep 0-9 ;",
        "wake 0-9 ;", "hold 0-9 ;", "usher 0-3 ;", "cough 0-9 ;", "beat 1-999 ;",
    };
    private static final String[] LAWS = {"breath 1 ;", "passes 1 ;", "holds 1 < 2 ;", "holds not 1 = 1 or 2 # 3 and 4 >= 5 ;",
        "breath middle ( 1 , 2 , 3 ) ;", "passes - ( 1 + 2 ) * 3 / 4 % 5 ;"};
    private static final Checks c = new Checks();

    private static void fault(String text, int want) {
        c.due("the fault of " + text.replace("\n", "\\n"), Checks.faultOf(text), want);
    }

    private static boolean isLetter(int b) { return b >= 'a' && b <= 'z' || b >= 'A' && b <= 'Z'; }

    private static boolean isDigit(int b) { return b >= '0' && b <= '9'; }

    private static boolean isBlank(int b) { return b == 32 || b == 10; }

    private static void length() {
        c.sentence(7, "TEXTS of up to 300 bytes");
        fault("", 0);
        fault(" ", 0);
        fault(" ".repeat(300), 0);
        fault("\n".repeat(299) + ";", 1299);
        fault("passes " + "-1".repeat(146) + ";", 0);
        fault("passes " + "-1".repeat(146) + "1", 1300);
        fault("beat 1;" + " ".repeat(293), 0);
        fault(" ".repeat(293) + "beat 1;", 0);
        fault(" ".repeat(294) + "beat 1", 1300);
        fault(";".repeat(300), 1000);
        fault("passes" + "(".repeat(294), 3014);
    }

    private static void blanks() {
        c.sentence(8, "blanks (32, 10) aside");
        for (int b = 0; b < 256; b++) fault("beat 1;" + (char) b, isBlank(b) ? 0 : 1007);
        fault("\n beat\n \n1 ; ", 0);
        fault("be at 1;", 1000);
        fault("beat 1 0;", 1007);
        fault("holds 1 < = 2;", 1010);
        fault("beat1;beat2;", 0);
    }

    private static void letters() {
        c.sentence(8, "letters a .. z, A .. Z one behind the other (one TOKEN)");
        for (int b = 0; b < 256; b++) {
            fault("beat" + (char) b + "1;", isBlank(b) || isDigit(b) ? 0 : isLetter(b) ? 1000 : 1004);
        }
        for (String word : new String[] {"Beat", "BEAT", "beaT", "beatbeat", "bea", "eat", "b"}) fault(word + " 1;", 1000);
        fault("seat 0 lagg 1;", 1007);
        fault("seat 0 la 1;", 1007);
    }

    private static void digits() {
        c.sentence(8, "digits likewise (NUMBERS, 0 .. 9999)");
        for (int b = 0; b < 256; b++) {
            boolean joins = isDigit(b) || "+-*/%".indexOf(b) >= 0;
            fault("breath 1" + (char) b + "2;", isBlank(b) || b == ';' ? 1009 : joins ? 0 : 1008);
        }
        fault("breath 0;", 0);
        fault("breath 9999;", 0);
        fault("breath 10000;", 2007);
        fault("breath 00000000009999;", 0);
        fault("breath 00000000010000;", 2007);
        fault("breath 4294967296;", 2007);
        fault("breath 18446744073709551617;", 2007);
        fault("passes 1+10000;", 2009);
        fault("holds 10000<1;", 2006);
        fault("holds 1<10000;", 2008);
        fault("breath middle(1,10000,", 2016);
        fault("beat 0001;", 0);
        fault("beat 0000;", 2005);
    }

    private static void longest() {
        c.sentence(8, "<= >= < > = # + - * / % ( ) , ; (the longest)");
        for (int b = 0; b < 256; b++) {
            boolean asks = "<>=#".indexOf(b) >= 0;
            boolean goesOn = isDigit(b) || "+-*/%".indexOf(b) >= 0;
            fault("holds 1" + (char) b + "2;", asks ? 0 : isBlank(b) ? 1008 : goesOn ? 1009 : 1007);
        }
        fault("holds 1<=2;", 0);
        fault("holds 1>=2;", 0);
        fault("holds 1==2;", 1008);
        fault("holds 1=<2;", 1008);
        fault("holds 1=>2;", 1008);
        fault("holds 1<>2;", 1008);
        fault("holds 1#=2;", 1008);
        fault("holds 1<<2;", 1008);
        fault("holds 1<==2;", 1009);
        fault("holds 1<", 1008);
        fault("holds 1>", 1008);
        fault("holds 1<-2;", 0);
        fault("breath 1--2;", 0);
        fault("breath 1+-2;", 0);
        fault("breath 1-+2;", 1009);
    }

    private static void clauseForms() {
        c.sentence(8, "2 a NUMBER that isn't one of those told");
        for (String form : FORMS) {
            String[] parts = form.split(" ");
            for (int k = 1; k < parts.length - 1; k += 2) numberOf(parts, k);
        }
    }

    /** The other numbers are the least that can be. */
    private static void numberOf(String[] parts, int k) {
        StringBuilder before = new StringBuilder();
        for (int i = 0; i < k; i++) before.append(least(parts[i])).append(' ');
        StringBuilder behind = new StringBuilder();
        for (int i = k + 1; i < parts.length; i++) behind.append(' ').append(least(parts[i]));
        int least = Integer.parseInt(parts[k].split("-")[0]);
        int most = Integer.parseInt(parts[k].split("-")[1]);
        int wrong = 2000 + before.length();
        fault(before + "" + least + behind, 0);
        fault(before + "" + most + behind, 0);
        fault(before + "000" + most + behind, 0);
        if (least > 0) fault(before + "" + (least - 1) + behind, wrong);
        fault(before + "" + (most + 1) + behind, wrong);
        fault(before + "9999999999" + behind, wrong);
        fault(before + "-1" + behind, wrong - 1000);
    }

    private static String least(String part) { return part.split("-")[0]; }

    private static void wrongTokens() {
        c.sentence(8, "1 it can't stand there, or is none");
        for (String[] all : new String[][] {FORMS, LAWS}) {
            for (String form : all) {
                String[] parts = form.split(" ");
                for (int i = 0; i < parts.length; i++) parts[i] = parts[i].length() > 1 ? least(parts[i]) : parts[i];
                for (int k = 0; k < parts.length; k++) wrongAt(parts, k);
            }
        }
    }

    private static void wrongAt(String[] parts, int k) {
        StringBuilder before = new StringBuilder();
        for (int i = 0; i < k; i++) before.append(parts[i]).append(' ');
        int wrong = 1000 + before.length();
        for (String odd : new String[] {"!", "foo", ",", "on", "start", ";", "\u00e9"}) {
            // A clause can end where it could go on; then the next ; is the wrong one.
            boolean ends = odd.equals(";") && "or and * / %".contains(parts[k]);
            if (!odd.equals(parts[k])) fault(before + odd + " ;", ends ? wrong + 2 : wrong);
        }
    }

    private static void endTooSoon() {
        c.sentence(8, "at the TOKEN's first byte (of the end at the length)");
        for (String[] all : new String[][] {FORMS, LAWS}) {
            for (String form : all) {
                StringBuilder text = new StringBuilder();
                String[] parts = form.split(" ");
                for (int i = 0; i < parts.length - 1; i++) {
                    text.append(i == 0 ? "" : "  ").append(parts[i].length() > 1 ? least(parts[i]) : parts[i]);
                    fault(text.toString(), 1000 + text.length());
                    fault(text + "\n ", 1002 + text.length());
                }
            }
        }
        fault("beat 1000;", 2005);
        fault("beat     1000;", 2009);
    }

    private static void depth() {
        c.sentence(8, "3 the 9th of ( not middle and - (of one ONE) that are open around one another (at it)");
        fault("breath " + "(".repeat(8) + "1" + ")".repeat(8) + ";", 0);
        fault("breath " + "(".repeat(9) + "1" + ")".repeat(9) + ";", 3015);
        fault("breath " + "-".repeat(8) + "1;", 0);
        fault("breath " + "-".repeat(9) + "1;", 3015);
        fault("holds " + "not ".repeat(8) + "1<2;", 0);
        fault("holds " + "not ".repeat(9) + "1<2;", 3038);
        fault("breath " + "middle(".repeat(8) + "1" + ",2,3)".repeat(8) + ";", 0);
        fault("breath " + "middle(".repeat(9) + "1" + ",2,3)".repeat(9) + ";", 3063);
        fault("breath " + "1-(".repeat(8) + "1" + ")".repeat(8) + ";", 0);
        fault("breath " + "1-(".repeat(9) + "1" + ")".repeat(9) + ";", 3033);
        fault("breath -(-(-(-(1))));", 0);
        fault("breath -(-(-(-(-1))));", 3015);
        fault("breath -(-(-(-(middle(1,2,3)))));", 3015);
        fault("breath -(-(-(middle(-(1),2,3))));", 3021);
        fault("breath -(-(-(middle(1,-2,3))));", 0);
        fault("holds not not not not ----1<2;", 0);
        fault("holds not not not not -----1<2;", 3026);
        fault("holds not not not not 1<----2;", 0);
        fault("holds not not not not 1<-----2;", 3028);
        fault("breath ((((((((1))))))))*((((((((2))))))))-((((((((3))))))));", 0);
        fault("holds " + "not ".repeat(8) + "1<2 or " + "not ".repeat(8) + "1<2 and " + "not ".repeat(8) + "1<2;", 0);
        fault("breath --------1---------2;", 0);
        fault("breath --------1----------2;", 3025);
        for (String argument : new String[] {"", "1,", "1,2,"}) {
            int place = 14 + argument.length();
            String behind = argument.isEmpty() ? ",2,3);" : argument.length() == 2 ? ",3);" : ");";
            fault("breath middle(" + argument + "-".repeat(7) + "1" + behind, 0);
            fault("breath middle(" + argument + "-".repeat(8) + "1" + behind, 3007 + place);
            fault("breath middle(" + argument + "(".repeat(8) + "1" + ")".repeat(8) + behind, 3007 + place);
        }
        c.sentence(8, "the ( of middle is no other one");
        fault("breath (((((((middle(1,2,3))))))));", 0);
        fault("breath ((((((((middle(1,2,3)))))))));", 3015);
        fault("breath ((((((((middle", 3015);
        fault("breath (((((((middle", 1020);
        fault("breath (((((((middle((1", 3021);
    }

    private static void lawsTwice() {
        c.sentence(8, "4 breath, passes, holds for the second time (at it)");
        String[] laws = {"breath 1;", "passes 1;", "holds 1=1;"};
        for (int i = 0; i < 3; i++) {
            for (int k = 0; k < 3; k++) fault(laws[i] + laws[k], i == k ? 4000 + laws[i].length() : 0);
        }
        fault("breath 1;passes 1;holds 1=1;", 0);
        fault("breath 1;passes 1;holds 1=1;passes", 4028);
        fault("breath 1;beat 1;beat 1; breath 1;", 4024);
        fault("breath 1 breath", 1009);
        fault("breath;breath 1;", 1006);
    }

    private static void namesOfLaws() {
        c.sentence(8, "5 a NAME that isn't of that CLAUSE (at it)");
        String[] names = {"beat", "chest", "pulse", "time", "block", "asleep", "lag", "air", "high", "note"};
        for (int i = 0; i < names.length; i++) {
            fault("breath " + names[i] + ";", i < 6 ? 0 : 5007);
            fault("passes " + names[i] + ";", i < 7 ? 0 : 5007);
            fault("holds " + names[i] + "=1;", i == 0 || i > 6 ? 0 : 5006);
            fault("holds 1=" + names[i] + ";", i == 0 || i > 6 ? 0 : 5008);
        }
        for (String word : new String[] {"start", "seat", "one", "on", "hold", "breath", "x"}) fault("breath " + word + ";", 1007);
    }

    private static void clauses() {
        c.sentence(8, "{CLAUSE}, 24 at most; 6 the 25th CLAUSE (at its first TOKEN)");
        String most = "beat 1;".repeat(24);
        fault(most, 0);
        fault(most + " \n", 0);
        for (String form : FORMS) fault(most + " " + form, 6169);
        fault(most + "beat", 6168);
        fault("beat 1;".repeat(23) + "breath 1;", 0);
        fault(most + "breath 1;", 6168);
        fault("breath 1;passes 1;holds 1=1;" + "beat 1;".repeat(21), 0);
        fault("breath 1;passes 1;holds 1=1;" + "beat 1;".repeat(22), 6000 + 28 + 147);
    }

    private static void leastOfOne() {
        c.sentence(8, "of one the least");
        String most = "beat 1;".repeat(24);
        fault(most + "foo", 1168);
        fault(most + ";", 1168);
        fault(most + "air", 1168);
        fault("holds 1=1;" + "beat 1;".repeat(23) + "holds 1=1;", 4171);
        fault("breath 1 10000;", 1009);
        fault("beat 1 10000;", 1007);
        fault("breath 1 lag;", 1009);
        fault("breath ((((((((not", 1015);
        fault("holds ((((((((not", 1014);
        fault("holds 1< not", 1009);
        c.sentence(8, "FAULTS, the first as TOKENS are come to");
        fault("beat 0;foo", 2005);
        fault("breath lag 10000", 5007);
        fault("breath (((((((((lag", 3015);
        fault("sit 10 on 10;", 2004);
        fault("breath 1;breath lag;", 4009);
        fault(most + "beat 0;!", 6168);
    }

    /** What person 0 breathes by a law: it has chest 5, pulse 2, start 0 and lag 2. */
    private static void breath(String sum, int want) {
        BreatheAsOne x = Halls.one(5, 2, 0, 2);
        x.by(Checks.text(x, "breath " + sum + ";"));
        c.due("breath " + sum, x.of(0, 6), want);
    }

    private static void dividing() {
        c.sentence(19, "/ cuts towards 0, by 0 it is 0");
        breath("7/2", 3);
        breath("-7/2", -3);
        breath("7/-2", -3);
        breath("-7/-2", 3);
        breath("1/2", 0);
        breath("7/0", 0);
        breath("-7/0", 0);
        breath("0/0", 0);
        breath("8/4*2", 4);
        c.sentence(19, "% is what is left by it (with the first's sign), by 0 it is 0");
        breath("7%4", 3);
        breath("-7%4", -3);
        breath("7%-4", 3);
        breath("-7%-4", -3);
        breath("8%4", 0);
        breath("7%0", 0);
        breath("-7%0", 0);
        breath("time%2", 0);
        breath("(time-1)%2", -1);
    }

    private static void greatest() {
        c.sentence(19, "what is above 1000000 (below the same less) is that, at each step");
        String million = "1000*1000";
        String below = "(9999*100+99)";
        breath(million + "-" + below, 1);
        breath(below + "+1-" + million, 0);
        breath(below + "+2-" + million, 0);
        breath(million + "+1-" + million, 0);
        breath(million + "+9999-" + below, 1);
        breath("1001*1000-" + million, 0);
        breath("9999*9999-" + million, 0);
        breath("9999*9999*9999*9999-" + million, 0);
        breath("-" + million + "+" + below, -1);
        breath("-" + below + "-1+" + million, 0);
        breath("-" + below + "-2+" + million, 0);
        breath("-" + million + "-1+" + million, 0);
        breath("-1001*1000+" + million, 0);
        breath("-9999*9999+" + million, 0);
        breath("9999*-9999+" + million, 0);
        breath("-(" + million + ")-1+" + million, 0);
        breath("-(9999*-9999)-" + million, 0);
        breath("9999*9999/(200*1000)", 5);
        breath("9999*9999%9999-100", 0);
    }

    private static void leftFirst() {
        c.sentence(19, "From the left");
        breath("9-3-2", 4);
        breath("9-3+2", 8);
        breath("8/4/2", 1);
        breath("9%5%3", 1);
        breath("2*9%4", 2);
        breath("2+3*2", 8);
        breath("-2*-3", 6);
        breath("-1-1", -2);
        breath("-(1-1)-1", -1);
    }

    private static void middles() {
        c.sentence(19, "middle: neither the greatest nor the least of these");
        int[][] rows = {{1, 2, 3, 2}, {1, 3, 2, 2}, {2, 1, 3, 2}, {2, 3, 1, 2}, {3, 1, 2, 2}, {3, 2, 1, 2}, {4, 4, 1, 4}, {4, 1, 4, 4},
            {1, 4, 4, 4}, {1, 1, 4, 1}, {1, 4, 1, 1}, {4, 1, 1, 1}, {2, 2, 2, 2}, {0, 0, 0, 0}};
        for (int[] r : rows) breath("middle(" + r[0] + "," + r[1] + "," + r[2] + ")", r[3]);
        breath("middle(-1,0,1)", 0);
        breath("middle(-3,-1,-2)", -2);
        breath("middle(9999*9999,-9999*9999,7)", 7);
    }

    private static void bounds() {
        c.sentence(19, "breath: -9 at least, 9 at most");
        breath("9", 9);
        breath("10", 9);
        breath("9999*9999", 9);
        breath("-9", -9);
        breath("-10", -9);
        breath("-9999*9999", -9);
        breath("8", 8);
        breath("-8", -8);
        c.sentence(33, "passes: 0 at least, 10 at most");
        int[][] rows = {{-9999, 0, 1}, {-1, 0, 1}, {0, 0, 1}, {1, 1, 10}, {9, 9, 10}, {10, 1, 1}, {11, 1, 1}, {9999, 1, 1}};
        for (int[] r : rows) {
            BreatheAsOne x = Halls.row(2, "passes " + r[0] + ";");
            c.due("passes " + r[0] + ", upper", x.comes(0, 1, false), r[1]);
            c.due("passes " + r[0] + ", lower", x.comes(0, 1, true), r[2]);
        }
        c.sentence(33, "passes without: 3");
        for (String law : new String[] {"", "breath 1;holds 1=1;"}) {
            c.due("upper", Halls.row(2, law).comes(0, 1, false), 3);
            c.due("lower", Halls.row(2, law).comes(0, 1, true), 10);
        }
    }

    private static void namesOfPeople() {
        c.sentence(19, "NAMES: beat, chest, pulse, time, block, asleep (1, 0) in breath");
        BreatheAsOne x = new BreatheAsOne();
        x.seat(3, 9);
        x.person(9, 8, 17);
        x.sit(0, 0);
        x.beat(1);
        Checks.text(x, "breath chest*10+pulse-94;");
        Checks.text(x, "breath beat*100+time-105;");
        Checks.text(x, "breath block*2-asleep;");
        int[] awake = {4, 4, 6};
        int[] asleep = {4, 0, 5};
        for (int t = 0; t < 3; t++) {
            x.by(t);
            c.due("AWAKE by " + t, x.of(0, 6), awake[t]);
            x.be(0, 1);
            c.due("ASLEEP by " + t, x.of(0, 6), asleep[t]);
            x.be(0, 0);
        }
        c.sentence(33, "NAMES in passes; lag (of its SEAT)");
        BreatheAsOne y = new BreatheAsOne();
        y.seat(3, 7);
        y.seat(0, 0);
        for (int i = 0; i < 2; i++) {
            y.person(9, 8, 17);
            y.sit(i, i);
        }
        y.usher(3, true);
        y.by(Checks.text(y, "passes lag;"));
        c.due("lag with an USHER", y.comes(0, 1, false), 7);
        y.by(Checks.text(y, "passes time-10;"));
        c.due("time with an USHER", y.comes(0, 1, false), 7);
        y.by(Checks.text(y, "passes 1+8*asleep;"));
        int[] due = {1, 9, 1};
        for (int how : new int[] {1, 2, 0}) {
            y.be(0, how);
            c.due("asleep of one that is " + how, y.comes(0, 1, false), due[how]);
        }
        y.by(Checks.text(y, "passes chest+pulse+block+beat-17;"));
        y.beat(4);
        c.due("chest, pulse, block and beat", y.comes(0, 1, false), 7);
    }

    private static void namesOfNotes() {
        c.sentence(21, "NAMES: air, high, note (its number), beat in holds");
        String[] laws = {"note=11", "high=99", "beat=9999", "air=90", "air=0-90", "note+high+beat=11+99+9999"};
        int[] due = {1, 1, 1, 0, 1, 1};
        BreatheAsOne x = new BreatheAsOne();
        for (int i = 0; i < 10; i++) {
            x.seat(0, 0);
            x.person(9, 1, 0);
            x.sit(i, i);
        }
        for (int i = 0; i < 11; i++) x.note(0, i);
        x.note(9999, 99);
        x.image();
        for (int i = 0; i < laws.length; i++) {
            x.by(Checks.text(x, "holds " + laws[i] + ";"));
            c.due("the last NOTE by " + laws[i], x.ofNote(11, 3), due[i]);
            c.due("the first NOTE by " + laws[i], x.ofNote(0, 3), i == 3 ? 1 : 0);
            x.back();
        }
    }

    private static void breathWithout() {
        c.sentence(19, "breath without: TIME mod twice PULSE (0 or more) below PULSE: CHEST, else CHEST with minus");
        for (int pulse : new int[] {1, 2, 9}) {
            for (int lag = 0; lag <= 9; lag++) {
                for (int start : new int[] {0, 1, pulse - 1, pulse, 2 * pulse - 1, Math.min(17, 2 * pulse)}) {
                    int time = start - lag;
                    while (time < 0) time += 2 * pulse;
                    int due = time % (2 * pulse) < pulse ? 7 : -7;
                    c.due("TIME " + (start - lag) + ", PULSE " + pulse, Halls.one(7, pulse, start, lag).of(0, 6), due);
                }
            }
        }
        int[] due = {3, 3, -3, -3, 3};
        for (int time = 0; time > -5; time--) {
            c.due("TIME " + time + ", PULSE 2", Halls.one(3, 2, 0, -time).of(0, 6), time == 0 ? 3 : time > -3 ? -3 : 3);
            c.due("TIME " + -time + ", PULSE 2", Halls.one(3, 2, -time, 0).of(0, 6), due[-time]);
        }
    }

    private static void holdsWithout() {
        c.sentence(21, "holds without: AIR is HIGH or more");
        BreatheAsOne x = Halls.one(5, 9, 0, 0);
        for (int high : new int[] {0, 4, 5, 6, 99}) x.note(0, high);
        for (int n = 0; n < 5; n++) c.due("AIR 5, note " + n, x.ofNote(n, 3), n < 3 ? 1 : 0);
        x.sit(0, NONE);
        c.due("AIR 0, HIGH 0", x.ofNote(0, 3), 1);
        c.due("AIR 0, HIGH 4", x.ofNote(1, 3), 0);
        BreatheAsOne out = Halls.one(1, 1, 1, 0);
        out.note(0, 0);
        c.due("AIR -1, HIGH 0", out.ofNote(0, 3), 0);
        c.sentence(21, "without: by a TEXT whose CLAUSES are no laws");
        BreatheAsOne y = Halls.row(2, "beat 1;sleep 0;note 1 high 1;");
        for (int high : new int[] {1, 2, 3}) y.note(0, high);
        c.due("breath", y.of(0, 6), 1);
        c.due("passes", y.comes(0, 1, false), 3);
        c.due("holds by AIR 2", y.fell(), 4);
    }

    private static void fourLongOnes() {
        c.sentence(7, "TEXTS 0 .. 3: of up to 300 bytes");
        BreatheAsOne x = Halls.row(2, "");
        x.note(0, 5);
        String[] laws = {"breath 2", "passes 4", "holds 1", "breath 3"};
        String[] ends = {";", ";", "=high-4;", ";"};
        for (int t = 0; t < 4; t++) {
            String law = laws[t] + "+1-1".repeat(71);
            String blanks = " ".repeat(300 - law.length() - ends[t].length());
            c.due("text of 300 bytes", Checks.text(x, law + blanks + ends[t]), t);
        }
        int[][] due = {{2, 3, 1}, {1, 4, 1}, {1, 3, 0}, {3, 3, 0}};
        for (int t = 3; t >= 0; t--) {
            x.by(t);
            c.due("breath by " + t, x.of(0, 6), due[t][0]);
            c.due("passes by " + t, x.comes(0, 1, false) * 10 / x.comes(0, 1, true), due[t][1]);
            c.due("fell by " + t, x.fell(), due[t][2]);
        }
    }

    /** A note 0 at beat 0, nobody there. */
    private static void holds(String either, int want) {
        BreatheAsOne x = new BreatheAsOne();
        x.note(0, 7);
        x.by(Checks.text(x, "holds " + either + ";"));
        c.due("holds " + either, x.ofNote(0, 3), want);
    }

    private static void asks() {
        c.sentence(21, "SUM one of < <= > >= = # (unlike) SUM");
        String[] signs = {"<", "<=", ">", ">=", "=", "#"};
        int[][] due = {{1, 0, 0}, {1, 1, 0}, {0, 0, 1}, {0, 1, 1}, {0, 1, 0}, {1, 0, 1}};
        for (int s = 0; s < 6; s++) {
            for (int h = 6; h <= 8; h++) {
                String ask = h + signs[s] + "high";
                int so = due[s][h - 6];
                holds(ask, so);
                holds("not " + ask, 1 - so);
                holds("not not " + ask, so);
                holds(ask + " and high=7", so);
                holds("high#7 or " + ask, so);
                holds("not " + ask + " or high#7", 1 - so);
            }
        }
        c.sentence(21, "EITHER: BOTH {or BOTH}. BOTH: ASK {and ASK}. ASK: not ASK");
        holds("1=1 or 1=1 and 1=2", 1);
        holds("1=2 and 1=1 or 1=1", 1);
        holds("1=2 and 1=2 or 1=2", 0);
        holds("1=1 or 1=2 or 1=2", 1);
        holds("1=2 or 1=2 or 1=1", 1);
        holds("1=1 and 1=1 and 1=2", 0);
        holds("1=2 and 1=1 and 1=1", 0);
        holds("not 1=2 and 1=2", 0);
        holds("not 1=1 or 1=1", 1);
        holds("not not 1=1", 1);
        holds("not not not 1=1", 0);
        for (int row = 0; row < 8; row++) {
            boolean a = (row & 4) != 0;
            boolean b = (row & 2) != 0;
            boolean d = (row & 1) != 0;
            String[] s = {a ? "7=high" : "7>high", b ? "high=7" : "high<7", d ? "8>high" : "8<high"};
            holds(s[0] + " or " + s[1], a || b ? 1 : 0);
            holds(s[0] + " and " + s[1], a && b ? 1 : 0);
            holds(s[0] + " or " + s[1] + " or " + s[2], a || b || d ? 1 : 0);
            holds(s[0] + " and " + s[1] + " and " + s[2], a && b && d ? 1 : 0);
            holds(s[0] + " or " + s[1] + " and " + s[2], a || b && d ? 1 : 0);
            holds(s[0] + " and " + s[1] + " or " + s[2], a && b || d ? 1 : 0);
            holds("not " + s[0] + " or " + s[1] + " and not " + s[2], !a || b && !d ? 1 : 0);
        }
    }

    public static void main(String[] args) {
        length();
        blanks();
        letters();
        digits();
        longest();
        clauseForms();
        wrongTokens();
        endTooSoon();
        depth();
        lawsTwice();
        namesOfLaws();
        clauses();
        leastOfOne();
        dividing();
        greatest();
        leftFirst();
        middles();
        bounds();
        namesOfPeople();
        namesOfNotes();
        breathWithout();
        holdsWithout();
        fourLongOnes();
        asks();
        c.finish();
    }
}
