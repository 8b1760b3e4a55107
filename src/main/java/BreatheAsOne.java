import java.util.Arrays;

/** An opera whose hall must breathe in time: ../shared/DOC.md says what each call answers. */
public final class BreatheAsOne {
    public static final int NONE = -1;

    private static final int REFUSED = -2;
    private static final int NO_VALUE = -100000;

    private static final int MOST_SEATS = 10;
    private static final int MOST_PEOPLE = 10;
    private static final int MOST_NOTES = 12;
    private static final int MOST_TEXTS = 4;
    private static final int MOST_COUGHS = 20;
    private static final int MOST_STEPS = 30;
    private static final int MOST_TOLD = 8;
    private static final int MOST_IN_SET = 5;
    private static final int MOST_BYTES = 300;
    private static final int MOST_CLAUSES = 24;
    private static final int BYTES_FED = 20;
    private static final int BLOCKS = 4;
    private static final int USHER_SETS = 1 << BLOCKS;
    private static final int LAST_BEAT = 9999;
    private static final int LAST_START = 17;
    private static final int FIRST_X = 71;

    private static final int AWAKE = 0;
    private static final int ASLEEP = 1;
    private static final int HOLDS_IT = 2;

    // Kinds of tokens; the signs stand in the order of SIGNS, the words in that of WORDS.
    private static final int END = 0;
    private static final int ODD = 1;
    private static final int NUMBER = 2;
    private static final int PLUS = 3;
    private static final int MINUS = 4;
    private static final int TIMES = 5;
    private static final int OVER = 6;
    private static final int REST = 7;
    private static final int BELOW = 8;
    private static final int ABOVE = 9;
    private static final int LIKE = 10;
    private static final int UNLIKE = 11;
    private static final int OPEN = 12;
    private static final int CLOSE = 13;
    private static final int COMMA = 14;
    private static final int SEMICOLON = 15;
    private static final int AT_MOST = 16;
    private static final int AT_LEAST = 17;
    private static final int BEAT = 18;
    private static final int CHEST = 19;
    private static final int PULSE = 20;
    private static final int TIME = 21;
    private static final int BLOCK = 22;
    private static final int SLEEPING = 23;
    private static final int LAG = 24;
    private static final int AIR = 25;
    private static final int HIGH = 26;
    private static final int NOTE = 27;
    private static final int BREATH = 28;
    private static final int PASSES = 29;
    private static final int HOLDS = 30;
    private static final int SEAT = 31;
    private static final int ONE = 32;
    private static final int SIT = 33;
    private static final int SLEEP = 34;
    private static final int WAKE = 35;
    private static final int HOLD = 36;
    private static final int USHER = 37;
    private static final int COUGH = 38;
    private static final int START = 39;
    private static final int ON = 40;
    private static final int OR = 41;
    private static final int AND = 42;
    private static final int NOT = 43;
    private static final int MIDDLE = 44;
    // No token: the minus of one number, as a step of a law's code.
    private static final int NEGATE = 45;

    // A token, and a step of a law's code, is an int: its kind below, a number's value above.
    private static final int KIND_BITS = 6;
    private static final int FIRST_NAME = BEAT;
    private static final int NAMES = 10;

    private final House house = new House();
    private final Moment moment = new Moment();
    private final Steps steps = new Steps();
    private final Told told = new Told();
    private final House imageHouse = new House();
    private final Moment imageMoment = new Moment();
    private final Steps imageSteps = new Steps();
    private final Told imageTold = new Told();
    private final byte[] tape = new byte[MOST_BYTES];
    private int tapeLength = 0;
    private final Reader reader = new Reader();
    private final Breathing breathing = new Breathing(house, moment);
    private final Deeds deeds = new Deeds(house, moment, steps, breathing);
    private final Questions questions = new Questions(house, moment, told, breathing);
    private final Games games = new Games(house, moment, told, breathing);

    public BreatheAsOne() {
    }

    public int seat(int block, int lag) {
        return house.addSeat(block, lag);
    }

    public int person(int chest, int pulse, int start) {
        return house.addPerson(chest, pulse, start);
    }

    public int note(int beat, int high) {
        return house.addNote(beat, high);
    }

    public int feed(int a, int b, int c, int d, int e) {
        if (tapeLength > MOST_BYTES - BYTES_FED) {
            return NONE;
        }
        putBytes(a);
        putBytes(b);
        putBytes(c);
        putBytes(d);
        putBytes(e);
        return tapeLength;
    }

    private void putBytes(int four) {
        for (int shift = 24; shift >= 0 && tapeLength < MOST_BYTES; shift -= 8) {
            tape[tapeLength] = (byte) (four >> shift);
            tapeLength++;
        }
    }

    public int end(int n) {
        if (n < 0 || n > tapeLength) {
            return NONE;
        }
        tapeLength = n;
        return n;
    }

    public int text() {
        if (house.textCount >= MOST_TEXTS) {
            return NONE;
        }
        Text read = reader.read(tape, tapeLength);
        tapeLength = 0;
        return read == null ? NONE : house.addText(read);
    }

    public int fault(int what) {
        if (!reader.hasRead || what < 0 || what > 1) {
            return NONE;
        }
        return what == 0 ? reader.fault : reader.faultPlace;
    }

    public boolean by(int text) {
        if (text != NONE && !house.hasText(text)) {
            return false;
        }
        house.ruling = text;
        return true;
    }

    public boolean sit(int person, int seat) {
        return deeds.sits(person, seat);
    }

    public boolean change(int one, int other) {
        return deeds.swaps(one, other);
    }

    public boolean be(int person, int how) {
        return deeds.turns(person, how);
    }

    public boolean usher(int block, boolean there) {
        return deeds.posts(block, there);
    }

    public int cough(int person) {
        return deeds.coughsNow(person);
    }

    public int beat(int n) {
        return deeds.passBeats(n);
    }

    public int played(int text) {
        Text script = house.textOf(text);
        if (script == null) {
            return REFUSED;
        }
        for (int clause = 0; clause < script.clauseCount; clause++) {
            if (!deeds.doClause(script, clause)) {
                return clause;
            }
        }
        return NONE;
    }

    public int season(int seed, int n) {
        return deeds.runSeason(seed, n);
    }

    public int undo() {
        return steps.takeBack(moment) ? steps.count : NONE;
    }

    public int of(int person, int what) {
        if (!house.hasPerson(person)) {
            return NO_VALUE;
        }
        switch (what) {
            case 0: return house.chest[person];
            case 1: return house.pulse[person];
            case 2: return house.start[person];
            case 3: return moment.seatOf[person];
            case 4: return moment.how[person];
            case 5: return breathing.timeNow(person, moment.beat);
            case 6: return breathing.breathNow(person, moment.beat);
            default: return NO_VALUE;
        }
    }

    public int ofSeat(int seat, int what) {
        if (!house.hasSeat(seat)) {
            return REFUSED;
        }
        switch (what) {
            case 0: return house.block[seat];
            case 1: return house.lag[seat];
            case 2: return moment.whoSits(seat);
            default: return REFUSED;
        }
    }

    public int ofNote(int note, int what) {
        if (!house.hasNote(note)) {
            return NO_VALUE;
        }
        switch (what) {
            case 0: return house.noteBeat[note];
            case 1: return house.noteHigh[note];
            case 2: return breathing.airAt(house.noteBeat[note]);
            case 3: return breathing.holdsNow(note) ? 1 : 0;
            default: return NO_VALUE;
        }
    }

    public int air(int beat) {
        return within(beat, 0, LAST_BEAT) ? breathing.airAt(beat) : NO_VALUE;
    }

    public int coughs(int i, int what) {
        if (i == NONE) {
            return moment.coughCount;
        }
        if (i < 0 || i >= moment.coughCount || what < 0 || what > 1) {
            return REFUSED;
        }
        return what == 0 ? moment.coughWho[i] : moment.coughBeat[i];
    }

    public int fell() {
        return questions.fallen();
    }

    public int whoIsOut(int notes) {
        return house.hasNotes(notes) ? questions.outBy(notes) : NONE;
    }

    public int hiccupped(int notes, int i) {
        return house.hasNotes(notes) ? questions.hiccups(notes, i) : NONE;
    }

    public int seated(int people, int seats, int person) {
        return games.bestSeats(people, seats, person);
    }

    public int ushers(int notes) {
        return house.hasNotes(notes) ? questions.fewestUshers(notes) : NONE;
    }

    public int cannot() {
        return questions.outOfReach();
    }

    public int shift(boolean many) {
        return questions.bestShift(many);
    }

    public int inTime(int person) {
        return house.hasPerson(person) ? questions.togetherWith(person) : NONE;
    }

    public int choir() {
        return questions.greatestChoir();
    }

    public long comes(int from, int to, boolean low) {
        if (!house.hasPerson(from) || !house.hasPerson(to)) {
            return NONE;
        }
        return questions.odds(from, to, low);
    }

    public int needed(int n, int what) {
        return questions.airNeeded(n, what);
    }

    public int duel(int first, int second, int note, boolean begin) {
        if (!within(first, 0, BLOCKS - 1) || !within(second, 0, BLOCKS - 1)
                || first == second || !house.hasNote(note)) {
            return REFUSED;
        }
        return games.fight(first, second, note, begin);
    }

    public int beside(int one, int other) {
        if (one == NONE) {
            told.besideCount = 0;
            return 0;
        }
        if (!house.hasPerson(one) || !house.hasPerson(other) || one == other) {
            return REFUSED;
        }
        return told.addBeside(one, other);
    }

    public int chairs(int people, int person, int seat) {
        return games.seatings(people, person, seat);
    }

    public int whoseLaw(int notes) {
        return house.hasNotes(notes) ? questions.lawsBy(notes) : NONE;
    }

    public int seen(int person, int beat, int how) {
        if (person == NONE) {
            told.seenCount = 0;
            return 0;
        }
        if (!house.hasPerson(person) || !within(beat, 0, LAST_BEAT) || !within(how, -1, 1)) {
            return REFUSED;
        }
        return told.addSeen(person, beat, how);
    }

    public int starts(int person) {
        return house.hasPerson(person) ? questions.startsOf(person) : NONE;
    }

    public int image() {
        imageHouse.copyFrom(house);
        imageMoment.copyFrom(moment);
        imageSteps.copyFrom(steps);
        imageTold.copyFrom(told);
        return moment.beat;
    }

    public int back() {
        house.copyFrom(imageHouse);
        moment.copyFrom(imageMoment);
        steps.copyFrom(imageSteps);
        told.copyFrom(imageTold);
        return moment.beat;
    }

    public int about(int what) {
        switch (what) {
            case 0: return house.seatCount;
            case 1: return house.peopleCount;
            case 2: return house.noteCount;
            case 3: return moment.beat;
            case 4: return moment.x;
            case 5: return house.textCount;
            case 6: return house.ruling;
            case 7: return steps.count;
            case 8: return moment.ushers;
            case 9: return told.besideCount;
            case 10: return told.seenCount;
            case 11: return tapeLength;
            default: return REFUSED;
        }
    }

    private static boolean within(int value, int least, int most) {
        return value >= least && value <= most;
    }

    private static boolean has(int set, int member) {
        return (set >> member & 1) != 0;
    }

    /** Seats, people, notes and texts: these are told once and never change. */
    private static final class House {
        int seatCount = 0;
        final int[] block = new int[MOST_SEATS];
        final int[] lag = new int[MOST_SEATS];
        int peopleCount = 0;
        final int[] chest = new int[MOST_PEOPLE];
        final int[] pulse = new int[MOST_PEOPLE];
        final int[] start = new int[MOST_PEOPLE];
        int noteCount = 0;
        final int[] noteBeat = new int[MOST_NOTES];
        final int[] noteHigh = new int[MOST_NOTES];
        int textCount = 0;
        final Text[] texts = new Text[MOST_TEXTS];
        int ruling = NONE;

        int addSeat(int itsBlock, int itsLag) {
            if (!within(itsBlock, 0, BLOCKS - 1) || !within(itsLag, 0, 9) || seatCount >= MOST_SEATS) {
                return NONE;
            }
            block[seatCount] = itsBlock;
            lag[seatCount] = itsLag;
            seatCount++;
            return seatCount - 1;
        }

        int addPerson(int itsChest, int itsPulse, int itsStart) {
            if (!within(itsChest, 1, 9) || !within(itsPulse, 1, 9) || !within(itsStart, 0, LAST_START)
                    || peopleCount >= MOST_PEOPLE) {
                return NONE;
            }
            chest[peopleCount] = itsChest;
            pulse[peopleCount] = itsPulse;
            start[peopleCount] = itsStart;
            peopleCount++;
            return peopleCount - 1;
        }

        int addNote(int itsBeat, int itsHigh) {
            if (!within(itsBeat, 0, LAST_BEAT) || !within(itsHigh, 0, 99) || noteCount >= MOST_NOTES) {
                return NONE;
            }
            noteBeat[noteCount] = itsBeat;
            noteHigh[noteCount] = itsHigh;
            noteCount++;
            return noteCount - 1;
        }

        int addText(Text read) {
            if (textCount >= MOST_TEXTS) {
                return NONE;
            }
            texts[textCount] = read;
            textCount++;
            return textCount - 1;
        }

        boolean hasSeat(int seat) {
            return seat >= 0 && seat < seatCount;
        }

        boolean hasPerson(int person) {
            return person >= 0 && person < peopleCount;
        }

        boolean hasNote(int note) {
            return note >= 0 && note < noteCount;
        }

        boolean hasText(int text) {
            return text >= 0 && text < textCount;
        }

        boolean hasNotes(int set) {
            return set >= 0 && set < 1 << noteCount;
        }

        /** A set of one to five of as many things as are told. */
        boolean isSmallSet(int set, int things) {
            return set > 0 && set < 1 << things && Integer.bitCount(set) <= MOST_IN_SET;
        }

        /** The text of that number; null if there is none. */
        Text textOf(int text) {
            return hasText(text) ? texts[text] : null;
        }

        Text rulingText() {
            return textOf(ruling);
        }

        void copyFrom(House other) {
            seatCount = other.seatCount;
            System.arraycopy(other.block, 0, block, 0, MOST_SEATS);
            System.arraycopy(other.lag, 0, lag, 0, MOST_SEATS);
            peopleCount = other.peopleCount;
            System.arraycopy(other.chest, 0, chest, 0, MOST_PEOPLE);
            System.arraycopy(other.pulse, 0, pulse, 0, MOST_PEOPLE);
            System.arraycopy(other.start, 0, start, 0, MOST_PEOPLE);
            noteCount = other.noteCount;
            System.arraycopy(other.noteBeat, 0, noteBeat, 0, MOST_NOTES);
            System.arraycopy(other.noteHigh, 0, noteHigh, 0, MOST_NOTES);
            textCount = other.textCount;
            for (int i = 0; i < MOST_TEXTS; i++) {
                texts[i] = other.texts[i];
            }
            ruling = other.ruling;
        }
    }

    /** All that steps change and that is taken back with them. */
    private static final class Moment {
        static final int WIDTH = 2 * MOST_PEOPLE + 4;

        // People who are not told yet have the values of a new one, so an undo makes them new by itself.
        final int[] seatOf = new int[MOST_PEOPLE];
        final int[] how = new int[MOST_PEOPLE];
        int ushers = 0;
        int beat = 0;
        int x = FIRST_X;
        int coughCount = 0;
        final int[] coughWho = new int[MOST_COUGHS];
        final int[] coughBeat = new int[MOST_COUGHS];

        Moment() {
            Arrays.fill(seatOf, NONE);
        }

        int whoSits(int seat) {
            for (int person = 0; person < MOST_PEOPLE; person++) {
                if (seatOf[person] == seat) {
                    return person;
                }
            }
            return NONE;
        }

        boolean isCoughing(int person, int atBeat) {
            for (int i = 0; i < coughCount; i++) {
                if (coughWho[i] == person && coughBeat[i] == atBeat) {
                    return true;
                }
            }
            return false;
        }

        void keepCough(int person) {
            if (coughCount < MOST_COUGHS && !isCoughing(person, beat)) {
                coughWho[coughCount] = person;
                coughBeat[coughCount] = beat;
                coughCount++;
            }
        }

        int draw() {
            int drawn = x;
            x = (x * 277 + 173) % 30271;
            return drawn;
        }

        // Coughs only come behind one another, so their number is enough to take the later ones away.
        void writeTo(int[] rows, int from) {
            System.arraycopy(seatOf, 0, rows, from, MOST_PEOPLE);
            System.arraycopy(how, 0, rows, from + MOST_PEOPLE, MOST_PEOPLE);
            int rest = from + 2 * MOST_PEOPLE;
            rows[rest] = ushers;
            rows[rest + 1] = beat;
            rows[rest + 2] = x;
            rows[rest + 3] = coughCount;
        }

        void readFrom(int[] rows, int from) {
            System.arraycopy(rows, from, seatOf, 0, MOST_PEOPLE);
            System.arraycopy(rows, from + MOST_PEOPLE, how, 0, MOST_PEOPLE);
            int rest = from + 2 * MOST_PEOPLE;
            ushers = rows[rest];
            beat = rows[rest + 1];
            x = rows[rest + 2];
            coughCount = rows[rest + 3];
        }

        void copyFrom(Moment other) {
            System.arraycopy(other.seatOf, 0, seatOf, 0, MOST_PEOPLE);
            System.arraycopy(other.how, 0, how, 0, MOST_PEOPLE);
            ushers = other.ushers;
            beat = other.beat;
            x = other.x;
            coughCount = other.coughCount;
            System.arraycopy(other.coughWho, 0, coughWho, 0, MOST_COUGHS);
            System.arraycopy(other.coughBeat, 0, coughBeat, 0, MOST_COUGHS);
        }
    }

    /** The latest moments ahead of a step, in a ring. */
    private static final class Steps {
        private final int[] rows = new int[MOST_STEPS * Moment.WIDTH];
        private int next = 0;
        int count = 0;

        void keep(Moment moment) {
            moment.writeTo(rows, next * Moment.WIDTH);
            next = (next + 1) % MOST_STEPS;
            if (count < MOST_STEPS) {
                count++;
            }
        }

        boolean takeBack(Moment moment) {
            if (count == 0) {
                return false;
            }
            count--;
            next = (next + MOST_STEPS - 1) % MOST_STEPS;
            moment.readFrom(rows, next * Moment.WIDTH);
            return true;
        }

        void copyFrom(Steps other) {
            System.arraycopy(other.rows, 0, rows, 0, rows.length);
            next = other.next;
            count = other.count;
        }
    }

    /** What was told of people beside one another and of breaths that were seen. */
    private static final class Told {
        int besideCount = 0;
        final int[] besideOne = new int[MOST_TOLD];
        final int[] besideOther = new int[MOST_TOLD];
        int seenCount = 0;
        final int[] seenWho = new int[MOST_TOLD];
        final int[] seenBeat = new int[MOST_TOLD];
        final int[] seenHow = new int[MOST_TOLD];

        int addBeside(int one, int other) {
            if (besideCount >= MOST_TOLD) {
                return REFUSED;
            }
            besideOne[besideCount] = one;
            besideOther[besideCount] = other;
            besideCount++;
            return besideCount;
        }

        int addSeen(int person, int beat, int how) {
            if (seenCount >= MOST_TOLD) {
                return REFUSED;
            }
            seenWho[seenCount] = person;
            seenBeat[seenCount] = beat;
            seenHow[seenCount] = how;
            seenCount++;
            return seenCount;
        }

        void copyFrom(Told other) {
            besideCount = other.besideCount;
            System.arraycopy(other.besideOne, 0, besideOne, 0, MOST_TOLD);
            System.arraycopy(other.besideOther, 0, besideOther, 0, MOST_TOLD);
            seenCount = other.seenCount;
            System.arraycopy(other.seenWho, 0, seenWho, 0, MOST_TOLD);
            System.arraycopy(other.seenBeat, 0, seenBeat, 0, MOST_TOLD);
            System.arraycopy(other.seenHow, 0, seenHow, 0, MOST_TOLD);
        }
    }

    /** A text that was read: its laws (null where it has none) and its clauses, four ints each. */
    private static final class Text {
        static final int WIDTH = 4;

        final int[] breath;
        final int[] passes;
        final int[] holds;
        final int[] clauses;
        final int clauseCount;

        Text(int[] breath, int[] passes, int[] holds, int[] clauses, int clauseCount) {
            this.breath = breath;
            this.passes = passes;
            this.holds = holds;
            this.clauses = clauses;
            this.clauseCount = clauseCount;
        }
    }

    /** Reads a tape token by token; a law becomes code whose steps come behind what they work on. */
    private static final class Reader {
        private static final String SIGNS = "+-*/%<>=#(),;";
        private static final String WORDS =
                "beat chest pulse time block asleep lag air high note breath passes holds seat one sit sleep wake hold usher cough start on or and not middle ";
        private static final int FORM_WIDTH = 9;
        // A word, the least and the greatest number behind it; three times (ODD: no more).
        private static final int[] FORMS = {
            SEAT, 0, 3, LAG, 0, 9, ODD, 0, 0,
            ONE, 1, 9, PULSE, 1, 9, START, 0, 17,
            NOTE, 0, 9999, HIGH, 0, 99, ODD, 0, 0,
            SIT, 0, 9, ON, 0, 9, ODD, 0, 0,
            SLEEP, 0, 9, ODD, 0, 0, ODD, 0, 0,
            WAKE, 0, 9, ODD, 0, 0, ODD, 0, 0,
            HOLD, 0, 9, ODD, 0, 0, ODD, 0, 0,
            USHER, 0, 3, ODD, 0, 0, ODD, 0, 0,
            COUGH, 0, 9, ODD, 0, 0, ODD, 0, 0,
            BEAT, 1, 999, ODD, 0, 0, ODD, 0, 0,
        };
        private static final int MOST_NUMBER = 9999;
        private static final int DEEPEST = 8;

        // A token's kind, a number's value above it, and where each token begins; the end of the text is the last one.
        private final int[] tokens = new int[MOST_BYTES + 1];
        private final int[] places = new int[MOST_BYTES + 1];
        private int at = 0;
        private int kind = END;
        private int value = 0;
        private final int[] code = new int[MOST_BYTES];
        private int codeLength = 0;
        private int law = ODD;
        private int[] breath = null;
        private int[] passes = null;
        private int[] holds = null;
        private final int[] clauses = new int[MOST_CLAUSES * Text.WIDTH];
        private int clauseCount = 0;
        boolean hasRead = false;
        int fault = 0;
        int faultPlace = NONE;

        /** The text on the tape; null if it has a fault. */
        Text read(byte[] tape, int length) {
            breath = null;
            passes = null;
            holds = null;
            clauseCount = 0;
            hasRead = true;
            fault = 0;
            faultPlace = NONE;
            scan(tape, Math.min(length, MOST_BYTES));
            goTo(0);
            for (int i = 0; i <= MOST_CLAUSES && kind != END; i++) {
                if (!readClause()) {
                    return null;
                }
            }
            int[] kept = Arrays.copyOf(clauses, clauseCount * Text.WIDTH);
            return new Text(breath, passes, holds, kept, clauseCount);
        }

        private void scan(byte[] tape, int length) {
            int count = 0;
            int from = 0;
            for (int i = 0; i < MOST_BYTES && from < length; i++) {
                int to = endOfToken(tape, from, length);
                if (tape[from] != ' ' && tape[from] != '\n') {
                    tokens[count] = tokenOf(tape, from, to);
                    places[count] = from;
                    count++;
                }
                from = to;
            }
            tokens[count] = END;
            places[count] = length;
        }

        private static int endOfToken(byte[] tape, int from, int length) {
            int to = from + 1;
            if (isLetter(tape[from])) {
                while (to < length && isLetter(tape[to])) {
                    to++;
                }
            } else if (isDigit(tape[from])) {
                while (to < length && isDigit(tape[to])) {
                    to++;
                }
            } else if ((tape[from] == '<' || tape[from] == '>') && to < length && tape[to] == '=') {
                to++;
            }
            return to;
        }

        private static int tokenOf(byte[] tape, int from, int to) {
            if (isLetter(tape[from])) {
                return wordOf(tape, from, to);
            }
            if (isDigit(tape[from])) {
                return NUMBER + (numberOf(tape, from, to) << KIND_BITS);
            }
            if (to > from + 1) {
                return tape[from] == '<' ? AT_MOST : AT_LEAST;
            }
            int sign = SIGNS.indexOf((char) (tape[from] & 255));
            return sign < 0 ? ODD : PLUS + sign;
        }

        private static int wordOf(byte[] tape, int from, int to) {
            int word = BEAT;
            int matched = from;
            for (int i = 0; i < WORDS.length(); i++) {
                char wanted = WORDS.charAt(i);
                if (wanted != ' ') {
                    // Beyond the token's end once a letter is unlike, so that the word is not taken.
                    matched = matched < to && tape[matched] == wanted ? matched + 1 : to + 1;
                } else if (matched == to) {
                    return word;
                } else {
                    word++;
                    matched = from;
                }
            }
            return ODD;
        }

        private static int numberOf(byte[] tape, int from, int to) {
            int number = 0;
            for (int i = from; i < to; i++) {
                number = Math.min(number * 10 + tape[i] - '0', MOST_NUMBER + 1);
            }
            return number;
        }

        private static boolean isLetter(int sign) {
            return sign >= 'a' && sign <= 'z' || sign >= 'A' && sign <= 'Z';
        }

        private static boolean isDigit(int sign) {
            return sign >= '0' && sign <= '9';
        }

        private void goTo(int token) {
            if (token >= 0 && token < tokens.length) {
                at = token;
                kind = tokens[token] & (1 << KIND_BITS) - 1;
                value = tokens[token] >> KIND_BITS;
            }
        }

        /** True always, so that it can stand among what has to be so. */
        private boolean next() {
            goTo(at + 1);
            return true;
        }

        private boolean expect(int wanted) {
            return kind == wanted ? next() : refuse(1);
        }

        private boolean refuse(int number) {
            fault = number;
            faultPlace = places[at];
            return false;
        }

        private boolean readClause() {
            int word = kind;
            int form = formOf(word);
            boolean isLaw = word == BREATH || word == PASSES || word == HOLDS;
            if (!isLaw && form < 0) {
                return refuse(1);
            }
            if (isLaw && lawOf(word) != null) {
                return refuse(4);
            }
            if (clauseCount >= MOST_CLAUSES) {
                return refuse(6);
            }
            clauses[clauseCount * Text.WIDTH] = word;
            law = word;
            codeLength = 0;
            boolean fine = !isLaw ? readNumbers(form) : next() && (word == HOLDS ? readEither() : readSum(0));
            if (!fine) {
                return false;
            }
            if (isLaw) {
                keepLaw();
            }
            clauseCount++;
            return expect(SEMICOLON);
        }

        private int formOf(int word) {
            for (int form = 0; form < FORMS.length; form += FORM_WIDTH) {
                if (FORMS[form] == word) {
                    return form;
                }
            }
            return NONE;
        }

        private int[] lawOf(int word) {
            return word == BREATH ? breath : word == PASSES ? passes : holds;
        }

        private boolean readNumbers(int form) {
            int into = clauseCount * Text.WIDTH + 1;
            for (int i = form; i < form + FORM_WIDTH && FORMS[i] != ODD; i += 3) {
                if (!expect(FORMS[i])) {
                    return false;
                }
                if (kind != NUMBER) {
                    return refuse(1);
                }
                if (value < FORMS[i + 1] || value > FORMS[i + 2]) {
                    return refuse(2);
                }
                clauses[into] = value;
                into++;
                next();
            }
            return true;
        }

        private void keepLaw() {
            int[] kept = Arrays.copyOf(code, codeLength);
            if (law == BREATH) {
                breath = kept;
            } else if (law == PASSES) {
                passes = kept;
            } else {
                holds = kept;
            }
        }

        /** An or waits until what is joined by and behind it has been read. */
        private boolean readEither() {
            boolean either = false;
            boolean both = false;
            for (int i = 0; i < MOST_BYTES; i++) {
                if (!readAsk(0)) {
                    return false;
                }
                if (both) {
                    emit(AND);
                }
                both = kind == AND;
                if (!both && either) {
                    emit(OR);
                }
                either = both ? either : kind == OR;
                if (!both && !either) {
                    return true;
                }
                next();
            }
            return refuse(1);
        }

        // In all that follows depth is how many of ( not middle - stand open around.
        private boolean readAsk(int depth) {
            if (kind == NOT) {
                if (depth >= DEEPEST) {
                    return refuse(3);
                }
                next();
                return readAsk(depth + 1) && emit(NOT);
            }
            if (!readSum(depth)) {
                return false;
            }
            int comparison = kind;
            if (!within(comparison, BELOW, UNLIKE) && comparison != AT_MOST && comparison != AT_LEAST) {
                return refuse(1);
            }
            next();
            return readSum(depth) && emit(comparison);
        }

        private boolean readSum(int depth) {
            if (!readProduct(depth)) {
                return false;
            }
            for (int i = 0; i < MOST_BYTES && within(kind, PLUS, MINUS); i++) {
                int sign = kind;
                next();
                if (!readProduct(depth)) {
                    return false;
                }
                emit(sign);
            }
            return true;
        }

        private boolean readProduct(int depth) {
            if (!readOne(depth)) {
                return false;
            }
            for (int i = 0; i < MOST_BYTES && within(kind, TIMES, REST); i++) {
                int sign = kind;
                next();
                if (!readOne(depth)) {
                    return false;
                }
                emit(sign);
            }
            return true;
        }

        private boolean readOne(int depth) {
            if (kind == NUMBER) {
                return value > MOST_NUMBER ? refuse(2) : emit(NUMBER + (value << KIND_BITS)) && next();
            }
            if (within(kind, FIRST_NAME, FIRST_NAME + NAMES - 1)) {
                return isNameOfLaw(kind) ? emit(kind) && next() : refuse(5);
            }
            if (kind != OPEN && kind != MINUS && kind != MIDDLE) {
                return refuse(1);
            }
            if (depth >= DEEPEST) {
                return refuse(3);
            }
            int opened = kind;
            next();
            if (opened == MINUS) {
                return readOne(depth + 1) && emit(NEGATE);
            }
            if (opened == OPEN) {
                return readSum(depth + 1) && expect(CLOSE);
            }
            return expect(OPEN) && readSum(depth + 1) && expect(COMMA) && readSum(depth + 1)
                    && expect(COMMA) && readSum(depth + 1) && expect(CLOSE) && emit(MIDDLE);
        }

        private boolean isNameOfLaw(int name) {
            if (name == BEAT) {
                return true;
            }
            if (law == HOLDS) {
                return within(name, AIR, NOTE);
            }
            return name < LAG || name == LAG && law == PASSES;
        }

        private boolean emit(int step) {
            if (codeLength < code.length) {
                code[codeLength] = step;
                codeLength++;
            }
            return true;
        }
    }

    /** Times, breaths, air and what the laws say of them. */
    private static final class Breathing {
        private static final int MOST_WORTH = 1000000;
        private static final int MOST_STACK = 64;
        private static final int MOST_BREATH = 9;
        private static final int MOST_AIR = MOST_BREATH * MOST_PEOPLE;

        private final House house;
        private final Moment moment;
        private final int[] names = new int[NAMES];
        private final int[] stack = new int[MOST_STACK];
        // What holds said of the note asked of, by air: twice the asking's number, one more if it holds.
        private final int[] verdicts = new int[2 * MOST_AIR + 1];
        private int asking = 0;
        private int askedNote = 0;

        Breathing(House house, Moment moment) {
            this.house = house;
            this.moment = moment;
        }

        int timeAs(int person, int beat, int seat, int how, int ushers, int start) {
            int time = beat + start;
            if (seat != NONE && (how == ASLEEP || !has(ushers, house.block[seat]))) {
                time -= house.lag[seat];
            }
            return how == ASLEEP ? time - house.pulse[person] / 2 : time;
        }

        int timeNow(int person, int beat) {
            return timeAs(person, beat, moment.seatOf[person], moment.how[person], moment.ushers, house.start[person]);
        }

        int breathAs(int person, int beat, int seat, int how, int ushers, int start) {
            if (seat == NONE || how == HOLDS_IT || moment.isCoughing(person, beat)) {
                return 0;
            }
            int time = timeAs(person, beat, seat, how, ushers, start);
            Text text = house.rulingText();
            if (text == null || text.breath == null) {
                boolean in = Math.floorMod(time, 2 * house.pulse[person]) < house.pulse[person];
                return in ? house.chest[person] : -house.chest[person];
            }
            namePerson(person, beat, time, seat, how);
            return Math.max(-MOST_BREATH, Math.min(MOST_BREATH, worth(text.breath)));
        }

        int breathNow(int person, int beat) {
            return breathAs(person, beat, moment.seatOf[person], moment.how[person], moment.ushers,
                    house.start[person]);
        }

        /** The breath if it were asleep, or awake if it is asleep. */
        int breathOtherwise(int person, int beat, int ushers) {
            int how = moment.how[person] == ASLEEP ? AWAKE : ASLEEP;
            return breathAs(person, beat, moment.seatOf[person], how, ushers, house.start[person]);
        }

        int airAt(int beat) {
            int air = 0;
            for (int person = 0; person < house.peopleCount; person++) {
                air += breathAs(person, beat, moment.seatOf[person], moment.how[person], moment.ushers,
                        house.start[person]);
            }
            return air;
        }

        /** How many of ten draughts pass a cough of one who sits on to the one beside. */
        int passesOf(int person) {
            Text text = house.rulingText();
            if (text == null || text.passes == null) {
                return 3;
            }
            int seat = moment.seatOf[person];
            if (seat == NONE) {
                return 0;
            }
            int how = moment.how[person];
            int time = timeAs(person, moment.beat, seat, how, moment.ushers, house.start[person]);
            namePerson(person, moment.beat, time, seat, how);
            return Math.max(0, Math.min(10, worth(text.passes)));
        }

        boolean holdsBy(Text text, int note, int beat, int air) {
            if (text == null || text.holds == null) {
                return air >= house.noteHigh[note];
            }
            names[BEAT - FIRST_NAME] = beat;
            names[AIR - FIRST_NAME] = air;
            names[HIGH - FIRST_NAME] = house.noteHigh[note];
            names[NOTE - FIRST_NAME] = note;
            return worth(text.holds) != 0;
        }

        boolean holdsWith(int note, int air) {
            return holdsBy(house.rulingText(), note, house.noteBeat[note], air);
        }

        boolean holdsNow(int note) {
            return holdsWith(note, airAt(house.noteBeat[note]));
        }

        /** From here on wouldHold answers for this note, and asks the law once for each air. */
        void askOf(int note) {
            asking++;
            askedNote = note;
        }

        boolean wouldHold(int air) {
            int i = air + MOST_AIR;
            boolean kept = i >= 0 && i < verdicts.length;
            if (kept && verdicts[i] >> 1 == asking) {
                return (verdicts[i] & 1) != 0;
            }
            boolean holds = holdsBy(house.rulingText(), askedNote, house.noteBeat[askedNote], air);
            if (kept) {
                verdicts[i] = 2 * asking + (holds ? 1 : 0);
            }
            return holds;
        }

        private void namePerson(int person, int beat, int time, int seat, int how) {
            names[BEAT - FIRST_NAME] = beat;
            names[CHEST - FIRST_NAME] = house.chest[person];
            names[PULSE - FIRST_NAME] = house.pulse[person];
            names[TIME - FIRST_NAME] = time;
            names[BLOCK - FIRST_NAME] = house.block[seat];
            names[SLEEPING - FIRST_NAME] = how == ASLEEP ? 1 : 0;
            names[LAG - FIRST_NAME] = house.lag[seat];
        }

        // The reader's limits keep the stack below MOST_STACK; the looks at top keep that plain.
        private int worth(int[] code) {
            int top = 0;
            for (int i = 0; i < code.length && top < MOST_STACK; i++) {
                int kind = code[i] & (1 << KIND_BITS) - 1;
                if (kind == NUMBER) {
                    stack[top] = code[i] >> KIND_BITS;
                    top++;
                } else if (within(kind, FIRST_NAME, FIRST_NAME + NAMES - 1)) {
                    stack[top] = names[kind - FIRST_NAME];
                    top++;
                } else if (kind == NEGATE && top > 0) {
                    stack[top - 1] = -stack[top - 1];
                } else if (kind == NOT && top > 0) {
                    stack[top - 1] = 1 - stack[top - 1];
                } else if (kind == MIDDLE && top > 2) {
                    top -= 2;
                    int least = Math.min(stack[top - 1], stack[top]);
                    int greatest = Math.max(stack[top - 1], stack[top]);
                    stack[top - 1] = Math.max(least, Math.min(greatest, stack[top + 1]));
                } else if (top > 1) {
                    top--;
                    long joined = joined(kind, stack[top - 1], stack[top]);
                    stack[top - 1] = (int) Math.max(-MOST_WORTH, Math.min(MOST_WORTH, joined));
                }
            }
            return top > 0 ? stack[top - 1] : 0;
        }

        private static long joined(int kind, int a, int b) {
            switch (kind) {
                case PLUS: return a + b;
                case MINUS: return a - b;
                case TIMES: return (long) a * b;
                case OVER: return b == 0 ? 0 : a / b;
                case REST: return b == 0 ? 0 : a % b;
                case BELOW: return a < b ? 1 : 0;
                case AT_MOST: return a <= b ? 1 : 0;
                case ABOVE: return a > b ? 1 : 0;
                case AT_LEAST: return a >= b ? 1 : 0;
                case LIKE: return a == b ? 1 : 0;
                case UNLIKE: return a != b ? 1 : 0;
                case AND: return a & b;
                case OR: return a | b;
                default: return 0;
            }
        }
    }

    /** What is done by hand, by scripts and by seasons. */
    private static final class Deeds {
        private final House house;
        private final Moment moment;
        private final Steps steps;
        private final Breathing breathing;

        Deeds(House house, Moment moment, Steps steps, Breathing breathing) {
            this.house = house;
            this.moment = moment;
            this.steps = steps;
            this.breathing = breathing;
        }

        boolean sits(int person, int seat) {
            if (!house.hasPerson(person) || moment.seatOf[person] == seat) {
                return false;
            }
            if (seat != NONE && (!house.hasSeat(seat) || moment.whoSits(seat) != NONE)) {
                return false;
            }
            steps.keep(moment);
            moment.seatOf[person] = seat;
            return true;
        }

        boolean swaps(int one, int other) {
            if (!house.hasPerson(one) || !house.hasPerson(other) || one == other) {
                return false;
            }
            int seat = moment.seatOf[one];
            int otherSeat = moment.seatOf[other];
            if (seat == NONE || otherSeat == NONE) {
                return false;
            }
            steps.keep(moment);
            moment.seatOf[one] = otherSeat;
            moment.seatOf[other] = seat;
            return true;
        }

        boolean turns(int person, int how) {
            if (!house.hasPerson(person) || !within(how, AWAKE, HOLDS_IT) || moment.how[person] == how) {
                return false;
            }
            steps.keep(moment);
            moment.how[person] = how;
            return true;
        }

        boolean posts(int block, boolean there) {
            if (!within(block, 0, BLOCKS - 1) || has(moment.ushers, block) == there) {
                return false;
            }
            steps.keep(moment);
            moment.ushers ^= 1 << block;
            return true;
        }

        int coughsNow(int person) {
            if (!house.hasPerson(person) || moment.isCoughing(person, moment.beat)) {
                return NONE;
            }
            steps.keep(moment);
            int before = moment.coughCount;
            spread(person);
            return moment.coughCount - before;
        }

        private void spread(int person) {
            moment.keepCough(person);
            int seat = moment.seatOf[person];
            for (int way = 1; way >= -1 && seat != NONE; way -= 2) {
                int from = person;
                for (int to = seat + way; house.hasSeat(to) && from != NONE; to += way) {
                    int beside = moment.whoSits(to);
                    boolean ends = beside == NONE || moment.draw() % 10 >= breathing.passesOf(from);
                    from = ends ? NONE : beside;
                    if (!ends) {
                        moment.keepCough(beside);
                    }
                }
            }
        }

        int passBeats(int n) {
            if (!within(n, 1, 999) || moment.beat + n > LAST_BEAT) {
                return NONE;
            }
            steps.keep(moment);
            moment.beat += n;
            return moment.beat;
        }

        /** Whether a clause could be done; a law always can. */
        boolean doClause(Text script, int clause) {
            int at = clause * Text.WIDTH;
            if (at < 0 || at + Text.WIDTH > script.clauses.length) {
                return false;
            }
            int first = script.clauses[at + 1];
            int second = script.clauses[at + 2];
            switch (script.clauses[at]) {
                case SEAT: return house.addSeat(first, second) != NONE;
                case ONE: return house.addPerson(first, second, script.clauses[at + 3]) != NONE;
                case NOTE: return house.addNote(first, second) != NONE;
                case SIT: return sits(first, second);
                case SLEEP: return turns(first, ASLEEP);
                case WAKE: return turns(first, AWAKE);
                case HOLD: return turns(first, HOLDS_IT);
                case USHER: return posts(first, true);
                case COUGH: return coughsNow(first) != NONE;
                case BEAT: return passBeats(first) != NONE;
                default: return true;
            }
        }

        int runSeason(int seed, int n) {
            if (!within(seed, 0, 9999) || !within(n, 1, 40) || house.peopleCount == 0) {
                return NONE;
            }
            steps.keep(moment);
            moment.x = seed * 3 + FIRST_X;
            for (int i = 0; i < n; i++) {
                happen(moment.draw(), house.peopleCount);
            }
            return moment.beat;
        }

        private void happen(int x, int people) {
            int person = people > 0 ? x % people : 0;
            switch (x % 6) {
                case 0:
                    sitByChance(person, x);
                    break;
                case 1:
                    moment.how[person] = x % 3;
                    break;
                case 2:
                    moment.ushers ^= 1 << x % BLOCKS;
                    break;
                case 3:
                    if (!moment.isCoughing(person, moment.beat)) {
                        spread(person);
                    }
                    break;
                default:
                    moment.beat = Math.min(moment.beat + 1, LAST_BEAT);
                    break;
            }
        }

        private void sitByChance(int person, int x) {
            int seats = house.seatCount;
            if (seats > 0 && moment.whoSits(x % seats) == NONE) {
                moment.seatOf[person] = x % seats;
            }
        }
    }

    /** What would be, if something were otherwise. */
    private static final class Questions {
        private final House house;
        private final Moment moment;
        private final Told told;
        private final Breathing breathing;
        private final int[] airs = new int[MOST_NOTES];
        // At one note's beat: a block's air without and with an usher, what a person changes by being otherwise.
        // There 0 and -1 stand for ushers nowhere and in all blocks.
        private final int[] blockAir = new int[2 * BLOCKS];
        private final int[] changes = new int[2 * MOST_PEOPLE];

        Questions(House house, Moment moment, Told told, Breathing breathing) {
            this.house = house;
            this.moment = moment;
            this.told = told;
            this.breathing = breathing;
        }

        int fallen() {
            takeAirs();
            return fallenBy(house.rulingText());
        }

        private void takeAirs() {
            for (int note = 0; note < house.noteCount; note++) {
                airs[note] = breathing.airAt(house.noteBeat[note]);
            }
        }

        private int fallenBy(Text text) {
            int fallen = 0;
            for (int note = 0; note < house.noteCount; note++) {
                if (!breathing.holdsBy(text, note, house.noteBeat[note], airs[note])) {
                    fallen |= 1 << note;
                }
            }
            return fallen;
        }

        int lawsBy(int notes) {
            takeAirs();
            int laws = 0;
            for (int text = 0; text < house.textCount; text++) {
                if (fallenBy(house.textOf(text)) == notes) {
                    laws |= 1 << text;
                }
            }
            return laws;
        }

        int outBy(int notes) {
            takeAirs();
            int people = 0;
            for (int person = 0; person < house.peopleCount; person++) {
                if (isOutBy(person, notes)) {
                    people |= 1 << person;
                }
            }
            return people;
        }

        private boolean isOutBy(int person, int notes) {
            for (int note = 0; note < house.noteCount; note++) {
                int beat = house.noteBeat[note];
                int air = airs[note] - breathing.breathNow(person, beat)
                        + breathing.breathOtherwise(person, beat, moment.ushers);
                if (breathing.holdsWith(note, air) == has(notes, note)) {
                    return false;
                }
            }
            return true;
        }

        int hiccups(int notes, int i) {
            if (i < NONE) {
                return NONE;
            }
            takeAirs();
            int fallen = fallenBy(house.rulingText());
            int found = 0;
            for (int person = 0; person < house.peopleCount; person++) {
                for (int note = 0; note < house.noteCount; note++) {
                    if (isHiccup(person, note, fallen, notes)) {
                        if (found == i) {
                            return 100 * person + note;
                        }
                        found++;
                    }
                }
            }
            return i == NONE ? found : NONE;
        }

        private boolean isHiccup(int person, int note, int fallen, int notes) {
            int beat = house.noteBeat[note];
            if (moment.isCoughing(person, beat)) {
                return false;
            }
            int air = airs[note] - breathing.breathNow(person, beat);
            for (int other = 0; other < house.noteCount; other++) {
                boolean falls = house.noteBeat[other] == beat
                        ? !breathing.holdsWith(other, air) : has(fallen, other);
                if (falls != has(notes, other)) {
                    return false;
                }
            }
            return true;
        }

        /** The ushers there are now are left out of account: each set is looked at as if it were all. */
        int fewestUshers(int notes) {
            int sets = (1 << USHER_SETS) - 1;
            for (int note = 0; note < house.noteCount; note++) {
                if (has(notes, note)) {
                    sets &= setsThatHold(note);
                }
            }
            int best = NONE;
            for (int set = 0; set < USHER_SETS; set++) {
                if (has(sets, set) && (best == NONE || Integer.bitCount(set) < Integer.bitCount(best))) {
                    best = set;
                }
            }
            return best;
        }

        private int setsThatHold(int note) {
            takeBlockAir(house.noteBeat[note]);
            breathing.askOf(note);
            int sets = 0;
            for (int set = 0; set < USHER_SETS; set++) {
                if (breathing.wouldHold(airBy(set))) {
                    sets |= 1 << set;
                }
            }
            return sets;
        }

        private void takeBlockAir(int beat) {
            Arrays.fill(blockAir, 0);
            for (int person = 0; person < house.peopleCount; person++) {
                int seat = moment.seatOf[person];
                for (int there = 0; there < 2 && seat != NONE; there++) {
                    int breath = breathing.breathAs(person, beat, seat, moment.how[person], -there,
                            house.start[person]);
                    blockAir[2 * house.block[seat] + there] += breath;
                    changes[2 * person + there] = -breath;
                }
            }
        }

        private void takeChanges(int beat) {
            for (int person = 0; person < house.peopleCount; person++) {
                changes[2 * person] += breathing.breathOtherwise(person, beat, 0);
                changes[2 * person + 1] += breathing.breathOtherwise(person, beat, -1);
            }
        }

        private int airBy(int ushers) {
            int air = 0;
            for (int block = 0; block < BLOCKS; block++) {
                air += blockAir[2 * block + (ushers >> block & 1)];
            }
            return air;
        }

        int outOfReach() {
            int notes = 0;
            for (int note = 0; note < house.noteCount; note++) {
                if (!canBeHad(note)) {
                    notes |= 1 << note;
                }
            }
            return notes;
        }

        private boolean canBeHad(int note) {
            if (setsThatHold(note) != 0) {
                return true;
            }
            takeChanges(house.noteBeat[note]);
            for (int set = 0; set < USHER_SETS; set++) {
                int air = airBy(set);
                for (int person = 0; person < house.peopleCount; person++) {
                    int seat = moment.seatOf[person];
                    if (seat != NONE
                            && breathing.wouldHold(air + changes[2 * person + (set >> house.block[seat] & 1)])) {
                        return true;
                    }
                }
            }
            return false;
        }

        int bestShift(boolean many) {
            int best = 0;
            int most = NONE;
            for (int later = 0; later <= LAST_START; later++) {
                int held = heldLater(later);
                if (held > most) {
                    best = later;
                    most = held;
                }
            }
            return many ? most : best;
        }

        private int heldLater(int later) {
            int held = 0;
            for (int note = 0; note < house.noteCount; note++) {
                int beat = house.noteBeat[note] + later;
                if (breathing.holdsBy(house.rulingText(), note, beat, breathing.airAt(beat))) {
                    held++;
                }
            }
            return held;
        }

        int togetherWith(int person) {
            int pulse = house.pulse[person];
            int phase = phaseOf(person);
            int people = 0;
            for (int other = 0; other < house.peopleCount; other++) {
                if (house.pulse[other] == pulse && phaseOf(other) == phase) {
                    people |= 1 << other;
                }
            }
            return people;
        }

        private int phaseOf(int person) {
            return Math.floorMod(breathing.timeNow(person, 0), 2 * house.pulse[person]);
        }

        int greatestChoir() {
            int greatest = 0;
            for (int person = 0; person < house.peopleCount; person++) {
                greatest = Math.max(greatest, Integer.bitCount(togetherWith(person)));
            }
            return greatest;
        }

        long odds(int from, int to, boolean low) {
            if (from == to) {
                return 1;
            }
            int seat = moment.seatOf[from];
            int goal = moment.seatOf[to];
            if (seat == NONE || goal == NONE) {
                return low ? 1 : 0;
            }
            int way = goal > seat ? 1 : -1;
            int far = Math.abs(goal - seat);
            long upper = 1;
            long lower = 1;
            for (int i = 0; i < far; i++) {
                int passing = moment.whoSits(seat + i * way);
                upper *= passing == NONE ? 0 : breathing.passesOf(passing);
                lower *= 10;
            }
            long common = greatestDivisor(lower, upper);
            return (low ? lower : upper) / common;
        }

        /** Of numbers the first of which is above 0; Euclid needs far fewer rounds than the bound. */
        private static long greatestDivisor(long first, long second) {
            long a = first;
            long b = second;
            for (int i = 0; i < 1000 && b != 0; i++) {
                long rest = a % b;
                a = b;
                b = rest;
            }
            return a == 0 ? 1 : a;
        }

        int airNeeded(int n, int what) {
            if (!within(n, 1, 200) || !within(what, 0, 3)) {
                return NO_VALUE;
            }
            int greatest = breathing.airAt(moment.beat);
            int least = greatest;
            int sum = Math.max(greatest, 0);
            int first = 0;
            for (int i = 1; i < n; i++) {
                int air = breathing.airAt(moment.beat + i);
                sum += Math.max(air, 0);
                least = Math.min(least, air);
                if (air > greatest) {
                    greatest = air;
                    first = i;
                }
            }
            return what == 0 ? sum : what == 1 ? greatest : what == 2 ? least : first;
        }

        int startsOf(int person) {
            int starts = 0;
            for (int start = 0; start <= LAST_START; start++) {
                if (isSeenBy(person, start)) {
                    starts |= 1 << start;
                }
            }
            return starts;
        }

        private boolean isSeenBy(int person, int start) {
            for (int i = 0; i < told.seenCount; i++) {
                if (told.seenWho[i] == person) {
                    int breath = breathing.breathAs(person, told.seenBeat[i], moment.seatOf[person],
                            moment.how[person], moment.ushers, start);
                    if (Integer.signum(breath) != told.seenHow[i]) {
                        return false;
                    }
                }
            }
            return true;
        }
    }

    /** Ways of seating that are gone through one by one, and the duel. */
    private static final class Games {
        private static final int MOST_ORDERS = 120;
        private static final int SIDE_SETS = 1 << MOST_IN_SET;

        private final House house;
        private final Moment moment;
        private final Told told;
        private final Breathing breathing;
        private final int[] members = new int[MOST_IN_SET];
        private final int[] places = new int[MOST_IN_SET];
        private final int[] order = new int[MOST_IN_SET];
        private final int[] breaths = new int[MOST_IN_SET * MOST_IN_SET];
        private final int[] held = new int[MOST_ORDERS];
        private final int[] rivals = new int[MOST_IN_SET];
        // What a side changes of the air by those of a set that are put asleep.
        private final int[] firstAir = new int[SIDE_SETS];
        private final int[] secondAir = new int[SIDE_SETS];
        // By the first side's sleepers, bits by the second's: whoever is to move there wins.
        private final int[] wins = new int[SIDE_SETS];

        Games(House house, Moment moment, Told told, Breathing breathing) {
            this.house = house;
            this.moment = moment;
            this.told = told;
            this.breathing = breathing;
        }

        private static int listMembers(int set, int[] into) {
            int count = 0;
            for (int i = 0; i < MOST_PEOPLE && count < into.length; i++) {
                if (has(set, i)) {
                    into[count] = i;
                    count++;
                }
            }
            return count;
        }

        private static int indexIn(int[] list, int count, int wanted) {
            for (int i = 0; i < count; i++) {
                if (list[i] == wanted) {
                    return i;
                }
            }
            return NONE;
        }

        private void firstOrder(int n) {
            for (int i = 0; i < n; i++) {
                order[i] = i;
            }
        }

        /** The next one as words are sorted; false behind the last. */
        private boolean nextOrder(int n) {
            int rise = n - 2;
            while (rise >= 0 && order[rise] > order[rise + 1]) {
                rise--;
            }
            if (rise < 0) {
                return false;
            }
            int above = n - 1;
            while (above > rise && order[above] < order[rise]) {
                above--;
            }
            swapOrder(rise, above);
            for (int low = rise + 1, high = n - 1; low < high; low++, high--) {
                swapOrder(low, high);
            }
            return true;
        }

        private void swapOrder(int i, int j) {
            int kept = order[i];
            order[i] = order[j];
            order[j] = kept;
        }

        int bestSeats(int people, int seats, int person) {
            if (!house.isSmallSet(people, house.peopleCount) || !house.isSmallSet(seats, house.seatCount)
                    || Integer.bitCount(people) != Integer.bitCount(seats)) {
                return NONE;
            }
            int n = listMembers(people, members);
            listMembers(seats, places);
            int index = indexIn(members, n, person);
            if (person != NONE && index == NONE) {
                return NONE;
            }
            Arrays.fill(held, 0);
            for (int note = 0; note < house.noteCount; note++) {
                countHeld(note, n, people, seats);
            }
            int best = 0;
            for (int i = 1; i < MOST_ORDERS; i++) {
                if (held[i] > held[best]) {
                    best = i;
                }
            }
            return person == NONE ? held[best] : places[orderAt(best, n, index)];
        }

        private void countHeld(int note, int n, int people, int seats) {
            int beat = house.noteBeat[note];
            int others = airOfOthers(beat, people, seats);
            for (int i = 0; i < n; i++) {
                int person = members[i];
                for (int j = 0; j < n; j++) {
                    breaths[i * MOST_IN_SET + j] = breathing.breathAs(person, beat, places[j], moment.how[person],
                            moment.ushers, house.start[person]);
                }
            }
            breathing.askOf(note);
            firstOrder(n);
            boolean more = true;
            for (int k = 0; k < MOST_ORDERS && more; k++) {
                int air = others;
                for (int i = 0; i < n; i++) {
                    air += breaths[i * MOST_IN_SET + order[i]];
                }
                held[k] += breathing.wouldHold(air) ? 1 : 0;
                more = nextOrder(n);
            }
        }

        private int airOfOthers(int beat, int people, int seats) {
            int air = 0;
            for (int person = 0; person < house.peopleCount; person++) {
                int seat = moment.seatOf[person];
                if (!has(people, person) && seat != NONE && !has(seats, seat)) {
                    air += breathing.breathAs(person, beat, seat, moment.how[person], moment.ushers,
                            house.start[person]);
                }
            }
            return air;
        }

        private int orderAt(int k, int n, int index) {
            firstOrder(n);
            for (int i = 0; i < k; i++) {
                nextOrder(n);
            }
            return index >= 0 && index < n ? order[index] : 0;
        }

        int seatings(int people, int person, int seat) {
            if (!house.isSmallSet(people, house.peopleCount)) {
                return NONE;
            }
            int n = listMembers(people, members);
            int index = indexIn(members, n, person);
            if (person != NONE && (index == NONE || seat < 0 || seat >= n)) {
                return NONE;
            }
            int count = 0;
            firstOrder(n);
            boolean more = true;
            for (int k = 0; k < MOST_ORDERS && more; k++) {
                if ((index == NONE || order[index] == seat) && isAsTold(n)) {
                    count++;
                }
                more = nextOrder(n);
            }
            return count;
        }

        private boolean isAsTold(int n) {
            for (int i = 0; i < told.besideCount; i++) {
                int one = indexIn(members, n, told.besideOne[i]);
                int other = indexIn(members, n, told.besideOther[i]);
                if (one != NONE && other != NONE && Math.abs(order[one] - order[other]) != 1) {
                    return false;
                }
            }
            return true;
        }

        int fight(int first, int second, int note, boolean begin) {
            int beat = house.noteBeat[note];
            int air = breathing.airAt(beat);
            breathing.askOf(note);
            if (!breathing.wouldHold(air)) {
                return begin ? NONE : 0;
            }
            int secondCount = takeSide(second, beat, secondAir, rivals);
            int firstCount = takeSide(first, beat, firstAir, members);
            for (int a = (1 << firstCount) - 1; a >= 0; a--) {
                wins[a] = 0;
                for (int b = (1 << secondCount) - 1; b >= 0; b--) {
                    int lead = Integer.bitCount(a) - Integer.bitCount(b);
                    if (lead == 0 && firstMove(a, b, firstCount, air) != NONE
                            || lead == 1 && secondWins(a, b, secondCount, air)) {
                        wins[a] |= 1 << b;
                    }
                }
            }
            int move = firstMove(0, 0, firstCount, air);
            if (begin) {
                return move == NONE ? NONE : members[move];
            }
            return move == NONE ? 0 : 1;
        }

        private int takeSide(int block, int beat, int[] airs, int[] side) {
            int count = 0;
            airs[0] = 0;
            for (int person = 0; person < house.peopleCount && count < MOST_IN_SET; person++) {
                int seat = moment.seatOf[person];
                if (seat != NONE && house.block[seat] == block && moment.how[person] != ASLEEP) {
                    int change = breathing.breathOtherwise(person, beat, moment.ushers)
                            - breathing.breathNow(person, beat);
                    side[count] = person;
                    for (int set = 0; set < 1 << count; set++) {
                        airs[set + (1 << count)] = airs[set] + change;
                    }
                    count++;
                }
            }
            return count;
        }

        /** The lowest of its people by whom the first side wins from there. */
        private int firstMove(int a, int b, int count, int air) {
            for (int i = 0; i < count; i++) {
                int after = a | 1 << i;
                if (after != a && breathing.wouldHold(air + firstAir[after] + secondAir[b]) && !has(wins[after], b)) {
                    return i;
                }
            }
            return NONE;
        }

        private boolean secondWins(int a, int b, int count, int air) {
            for (int i = 0; i < count; i++) {
                int after = b | 1 << i;
                if (after != b && breathing.wouldHold(air + firstAir[a] + secondAir[after])
                        && !has(wins[a], after)) {
                    return true;
                }
            }
            return false;
        }
    }
}
