import java.util.ArrayList;
import java.util.Arrays;
import java.util.List;

/** The document again, as slowly and plainly as it can be written: random runs compare the class with it. */
final class PlainModel {
    interface Value { long of(Names n); }

    /** What a law can ask for. */
    static final class Names {
        long beat, chest, pulse, time, block, asleep, lag, air, high, note;
    }

    static final class Fault extends RuntimeException {
        private static final long serialVersionUID = 1L;
        final int number;
        final int place;
        Fault(int number, int place) { super("fault"); this.number = number; this.place = place; }
    }

    static final class Script {
        Value breath, passes, holds;
        final List<int[]> clauses = new ArrayList<>();
        final List<String> words = new ArrayList<>();
    }

    static final class State {
        List<int[]> seats = new ArrayList<>();
        List<int[]> people = new ArrayList<>();
        List<int[]> notes = new ArrayList<>();
        List<Script> texts = new ArrayList<>();
        List<int[]> coughs = new ArrayList<>();
        List<int[]> beside = new ArrayList<>();
        List<int[]> seen = new ArrayList<>();
        List<State> steps = new ArrayList<>();
        int[] seatOf = new int[10];
        int[] how = new int[10];
        boolean[] usher = new boolean[4];
        int ruling = -1, beat = 0, x = 71;

        State() { Arrays.fill(seatOf, -1); }

        State copy() {
            State s = new State();
            s.seats = new ArrayList<>(seats);
            s.people = new ArrayList<>(people);
            s.notes = new ArrayList<>(notes);
            s.texts = new ArrayList<>(texts);
            s.coughs = new ArrayList<>(coughs);
            s.beside = new ArrayList<>(beside);
            s.seen = new ArrayList<>(seen);
            s.steps = new ArrayList<>(steps);
            s.seatOf = seatOf.clone();
            s.how = how.clone();
            s.usher = usher.clone();
            s.ruling = ruling;
            s.beat = beat;
            s.x = x;
            return s;
        }

        Script law() { return ruling < 0 ? new Script() : texts.get(ruling); }

        boolean coughsAt(int p, int b) {
            for (int[] c : coughs) if (c[0] == p && c[1] == b) return true;
            return false;
        }

        int sitter(int seat) {
            for (int p = 0; p < people.size(); p++) if (seatOf[p] == seat) return p;
            return -1;
        }

        int time(int p, int b) {
            int t = b + people.get(p)[2];
            if (seatOf[p] >= 0) {
                int[] seat = seats.get(seatOf[p]);
                boolean led = usher[seat[0]] && how[p] != 1;
                if (!led) t -= seat[1];
            }
            if (how[p] == 1) t -= people.get(p)[1] / 2;
            return t;
        }

        Names names(int p, int b) {
            Names n = new Names();
            n.beat = b;
            n.chest = people.get(p)[0];
            n.pulse = people.get(p)[1];
            n.time = time(p, b);
            n.block = seats.get(seatOf[p])[0];
            n.asleep = how[p] == 1 ? 1 : 0;
            n.lag = seats.get(seatOf[p])[1];
            return n;
        }

        int breath(int p, int b) {
            if (coughsAt(p, b) || how[p] == 2 || seatOf[p] < 0) return 0;
            if (law().breath != null) return (int) Math.min(9, Math.max(-9, law().breath.of(names(p, b))));
            int pulse = people.get(p)[1];
            int t = time(p, b);
            while (t < 0) t += 2 * pulse;
            return t % (2 * pulse) < pulse ? people.get(p)[0] : -people.get(p)[0];
        }

        int passes(int p) {
            if (law().passes == null) return 3;
            return (int) Math.min(10, Math.max(0, law().passes.of(names(p, beat))));
        }

        int air(int b) {
            int sum = 0;
            for (int p = 0; p < people.size(); p++) sum += breath(p, b);
            return sum;
        }

        boolean holds(Script by, int note) {
            int[] n = notes.get(note);
            int a = air(n[0]);
            if (by.holds == null) return a >= n[1];
            Names names = new Names();
            names.beat = n[0];
            names.air = a;
            names.high = n[1];
            names.note = note;
            return by.holds.of(names) != 0;
        }

        int fell(Script by) {
            int bits = 0;
            for (int n = 0; n < notes.size(); n++) if (!holds(by, n)) bits |= 1 << n;
            return bits;
        }

        int held() { return notes.size() - Integer.bitCount(fell(law())); }

        void flip(int p) { how[p] = how[p] == 1 ? 0 : 1; }
    }

    State now = new State();
    State image = new State();
    byte[] tape = new byte[0];
    int fault = -1, faultPlace = -1;

    private boolean isPerson(int p) { return p >= 0 && p < now.people.size(); }

    private boolean isNoteSet(int set) { return set >= 0 && set < 1 << now.notes.size(); }

    private void step() {
        State kept = now.copy();
        kept.steps = null;
        now.steps.add(kept);
        if (now.steps.size() > 30) now.steps.remove(0);
    }

    int seat(int block, int lag) {
        if (block < 0 || block > 3 || lag < 0 || lag > 9 || now.seats.size() == 10) return -1;
        now.seats.add(new int[] {block, lag});
        return now.seats.size() - 1;
    }

    int person(int chest, int pulse, int start) {
        if (chest < 1 || chest > 9 || pulse < 1 || pulse > 9 || start < 0 || start > 17 || now.people.size() == 10) return -1;
        now.people.add(new int[] {chest, pulse, start});
        return now.people.size() - 1;
    }

    int note(int beat, int high) {
        if (beat < 0 || beat > 9999 || high < 0 || high > 99 || now.notes.size() == 12) return -1;
        now.notes.add(new int[] {beat, high});
        return now.notes.size() - 1;
    }

    int feed(int... words) {
        if (tape.length + 20 > 300) return -1;
        int at = tape.length;
        tape = Arrays.copyOf(tape, at + 20);
        for (int w : words) for (int k = 3; k >= 0; k--) tape[at++] = (byte) (w >>> (8 * k));
        return tape.length;
    }

    int end(int n) {
        if (n < 0 || n > tape.length) return -1;
        tape = Arrays.copyOf(tape, n);
        return n;
    }

    int text() {
        if (now.texts.size() == 4) return -1;
        byte[] bytes = tape;
        tape = new byte[0];
        try {
            now.texts.add(new PlainParser(bytes).script());
            fault = 0;
            faultPlace = -1;
            return now.texts.size() - 1;
        } catch (Fault f) {
            fault = f.number;
            faultPlace = f.place;
            return -1;
        }
    }

    int fault(int what) { return what == 0 ? fault : what == 1 ? faultPlace : -1; }

    boolean by(int text) {
        if (text < -1 || text >= now.texts.size()) return false;
        now.ruling = text;
        return true;
    }

    boolean sit(int p, int seat) {
        if (!isPerson(p) || seat < -1 || seat >= now.seats.size() || now.seatOf[p] == seat) return false;
        if (seat >= 0 && now.sitter(seat) >= 0) return false;
        step();
        now.seatOf[p] = seat;
        return true;
    }

    boolean change(int one, int other) {
        if (!isPerson(one) || !isPerson(other) || one == other) return false;
        if (now.seatOf[one] < 0 || now.seatOf[other] < 0) return false;
        step();
        int s = now.seatOf[one];
        now.seatOf[one] = now.seatOf[other];
        now.seatOf[other] = s;
        return true;
    }

    boolean be(int p, int how) {
        if (!isPerson(p) || how < 0 || how > 2 || now.how[p] == how) return false;
        step();
        now.how[p] = how;
        return true;
    }

    boolean usher(int block, boolean there) {
        if (block < 0 || block > 3 || now.usher[block] == there) return false;
        step();
        now.usher[block] = there;
        return true;
    }

    private int draw() {
        int old = now.x;
        now.x = (old * 277 + 173) % 30271;
        return old;
    }

    private void addCough(int p) {
        if (!now.coughsAt(p, now.beat) && now.coughs.size() < 20) now.coughs.add(new int[] {p, now.beat});
    }

    private void coughed(int p) {
        addCough(p);
        if (now.seatOf[p] < 0) return;
        for (int way : new int[] {1, -1}) {
            int who = p;
            while (true) {
                int next = now.seatOf[who] + way;
                if (next < 0 || next >= now.seats.size() || now.sitter(next) < 0) break;
                int limit = now.passes(who);
                if (draw() % 10 >= limit) break;
                who = now.sitter(next);
                addCough(who);
            }
        }
    }

    int cough(int p) {
        if (!isPerson(p) || now.coughsAt(p, now.beat)) return -1;
        step();
        int before = now.coughs.size();
        coughed(p);
        return now.coughs.size() - before;
    }

    int beat(int n) {
        if (n < 1 || n > 999 || now.beat + n > 9999) return -1;
        step();
        now.beat += n;
        return now.beat;
    }

    int played(int text) {
        if (text < 0 || text >= now.texts.size()) return -2;
        Script script = now.texts.get(text);
        for (int i = 0; i < script.clauses.size(); i++) {
            int[] a = script.clauses.get(i);
            boolean done = switch (script.words.get(i)) {
                case "seat" -> seat(a[0], a[1]) >= 0;
                case "one" -> person(a[0], a[1], a[2]) >= 0;
                case "note" -> note(a[0], a[1]) >= 0;
                case "sit" -> sit(a[0], a[1]);
                case "sleep" -> be(a[0], 1);
                case "wake" -> be(a[0], 0);
                case "hold" -> be(a[0], 2);
                case "usher" -> usher(a[0], true);
                case "cough" -> cough(a[0]) >= 0;
                case "beat" -> beat(a[0]) >= 0;
                default -> true;
            };
            if (!done) return i;
        }
        return -1;
    }

    int season(int seed, int n) {
        if (seed < 0 || seed > 9999 || n < 1 || n > 40 || now.people.isEmpty()) return -1;
        step();
        now.x = seed * 3 + 71;
        for (int i = 0; i < n; i++) {
            int x = draw();
            int p = x % now.people.size();
            if (x % 6 == 0) {
                if (!now.seats.isEmpty() && now.sitter(x % now.seats.size()) < 0) now.seatOf[p] = x % now.seats.size();
            } else if (x % 6 == 1) {
                now.how[p] = x % 3;
            } else if (x % 6 == 2) {
                now.usher[x % 4] = !now.usher[x % 4];
            } else if (x % 6 == 3) {
                if (!now.coughsAt(p, now.beat)) coughed(p);
            } else if (now.beat < 9999) {
                now.beat++;
            }
        }
        return now.beat;
    }

    int undo() {
        if (now.steps.isEmpty()) return -1;
        State old = now.steps.remove(now.steps.size() - 1);
        for (int p = 0; p < now.people.size(); p++) {
            boolean newer = p >= old.people.size();
            now.seatOf[p] = newer ? -1 : old.seatOf[p];
            now.how[p] = newer ? 0 : old.how[p];
        }
        now.usher = old.usher.clone();
        now.beat = old.beat;
        now.coughs = new ArrayList<>(old.coughs);
        now.x = old.x;
        return now.steps.size();
    }

    int of(int p, int what) {
        if (!isPerson(p) || what < 0 || what > 6) return -100000;
        if (what < 3) return now.people.get(p)[what];
        return what == 3 ? now.seatOf[p] : what == 4 ? now.how[p] : what == 5 ? now.time(p, now.beat) : now.breath(p, now.beat);
    }

    int ofSeat(int seat, int what) {
        if (seat < 0 || seat >= now.seats.size() || what < 0 || what > 2) return -2;
        return what == 2 ? now.sitter(seat) : now.seats.get(seat)[what];
    }

    int ofNote(int note, int what) {
        if (note < 0 || note >= now.notes.size() || what < 0 || what > 3) return -100000;
        if (what < 2) return now.notes.get(note)[what];
        return what == 2 ? now.air(now.notes.get(note)[0]) : now.holds(now.law(), note) ? 1 : 0;
    }

    int air(int beat) { return beat < 0 || beat > 9999 ? -100000 : now.air(beat); }

    int coughs(int i, int what) {
        if (i == -1) return now.coughs.size();
        if (i < 0 || i >= now.coughs.size() || what < 0 || what > 1) return -2;
        return now.coughs.get(i)[what];
    }

    int fell() { return now.fell(now.law()); }

    int whoIsOut(int notes) {
        if (!isNoteSet(notes)) return -1;
        int bits = 0;
        for (int p = 0; p < now.people.size(); p++) {
            State s = now.copy();
            s.flip(p);
            if (s.fell(s.law()) == notes) bits |= 1 << p;
        }
        return bits;
    }

    int hiccupped(int notes, int i) {
        if (!isNoteSet(notes)) return -1;
        List<Integer> found = new ArrayList<>();
        for (int p = 0; p < now.people.size(); p++) {
            for (int n = 0; n < now.notes.size(); n++) {
                int b = now.notes.get(n)[0];
                if (now.coughsAt(p, b)) continue;
                State s = now.copy();
                s.coughs.add(new int[] {p, b});
                if (s.fell(s.law()) == notes) found.add(100 * p + n);
            }
        }
        return i == -1 ? found.size() : i < 0 || i >= found.size() ? -1 : found.get(i);
    }

    private static List<Integer> members(int set) {
        List<Integer> list = new ArrayList<>();
        for (int i = 0; i < 31; i++) if ((set >> i & 1) != 0) list.add(i);
        return list;
    }

    private static void orders(List<Integer> of, List<Integer> begun, List<List<Integer>> into) {
        if (begun.size() == of.size()) { into.add(new ArrayList<>(begun)); return; }
        for (Integer next : of) {
            if (begun.contains(next)) continue;
            begun.add(next);
            orders(of, begun, into);
            begun.remove(begun.size() - 1);
        }
    }

    int seated(int people, int seats, int person) {
        if (people <= 0 || people >= 1 << now.people.size() || seats <= 0 || seats >= 1 << now.seats.size()) return -1;
        List<Integer> who = members(people);
        List<Integer> where = members(seats);
        if (who.size() > 5 || who.size() != where.size()) return -1;
        if (person != -1 && !who.contains(person)) return -1;
        List<List<Integer>> all = new ArrayList<>();
        orders(where, new ArrayList<>(), all);
        int most = -1;
        List<Integer> best = null;
        for (List<Integer> order : all) {
            State s = now.copy();
            for (int p = 0; p < s.people.size(); p++) if (where.contains(s.seatOf[p])) s.seatOf[p] = -1;
            for (int k = 0; k < who.size(); k++) s.seatOf[who.get(k)] = order.get(k);
            if (s.held() > most) { most = s.held(); best = order; }
        }
        return person == -1 ? most : best.get(who.indexOf(person));
    }

    int ushers(int notes) {
        if (!isNoteSet(notes)) return -1;
        for (int size = 0; size <= 4; size++) {
            for (int set = 0; set < 16; set++) {
                if (Integer.bitCount(set) != size) continue;
                State s = now.copy();
                for (int b = 0; b < 4; b++) s.usher[b] = (set >> b & 1) != 0;
                if ((s.fell(s.law()) & notes) == 0) return set;
            }
        }
        return -1;
    }

    int cannot() {
        int never = (1 << now.notes.size()) - 1;
        for (int set = 0; set < 16; set++) {
            for (int p = -1; p < now.people.size(); p++) {
                State s = now.copy();
                for (int b = 0; b < 4; b++) s.usher[b] = (set >> b & 1) != 0;
                if (p >= 0) s.flip(p);
                never &= s.fell(s.law());
            }
        }
        return never;
    }

    int shift(boolean many) {
        int best = 0;
        int most = -1;
        for (int by = 0; by <= 17; by++) {
            State s = now.copy();
            s.notes.replaceAll(later(by));
            if (s.held() > most) { most = s.held(); best = by; }
        }
        return many ? most : best;
    }

    private static java.util.function.UnaryOperator<int[]> later(int by) { return n -> new int[] {n[0] + by, n[1]}; }

    int inTime(int p) {
        if (!isPerson(p)) return -1;
        int bits = 0;
        for (int q = 0; q < now.people.size(); q++) {
            int pulse = now.people.get(p)[1];
            if (now.people.get(q)[1] == pulse && (now.time(p, 0) - now.time(q, 0)) % (2 * pulse) == 0) bits |= 1 << q;
        }
        return bits;
    }

    int choir() {
        int most = 0;
        for (int set = 0; set < 1 << now.people.size(); set++) {
            boolean together = true;
            for (int p : members(set)) together &= (inTime(p) & set) == set;
            if (together) most = Math.max(most, Integer.bitCount(set));
        }
        return most;
    }

    long comes(int from, int to, boolean low) {
        if (!isPerson(from) || !isPerson(to)) return -1;
        long up = 1;
        long down = 1;
        int a = now.seatOf[from];
        int b = now.seatOf[to];
        if (from != to) {
            if (a < 0 || b < 0) return low ? 1 : 0;
            for (int s = a; s != b; s += a < b ? 1 : -1) {
                int who = now.sitter(s);
                if (who < 0) return low ? 1 : 0;
                up *= now.passes(who);
                down *= 10;
            }
        }
        if (up == 0) return low ? 1 : 0;
        for (int d : new int[] {2, 5}) while (up % d == 0 && down % d == 0) { up /= d; down /= d; }
        return low ? down : up;
    }

    int needed(int n, int what) {
        if (n < 1 || n > 200 || what < 0 || what > 3) return -100000;
        List<Integer> airs = new ArrayList<>();
        for (int i = 0; i < n; i++) airs.add(now.air(now.beat + i));
        int most = airs.stream().max(Integer::compare).get();
        if (what == 0) return airs.stream().filter(a -> a > 0).mapToInt(a -> a).sum();
        return what == 1 ? most : what == 2 ? airs.stream().min(Integer::compare).get() : airs.indexOf(most);
    }

    private static List<Integer> side(State s, int block) {
        List<Integer> list = new ArrayList<>();
        for (int p = 0; p < s.people.size() && list.size() < 5; p++) {
            if (s.seatOf[p] >= 0 && s.seats.get(s.seatOf[p])[0] == block && s.how[p] != 1) list.add(p);
        }
        return list;
    }

    /** Whether who is to move wins; its own people first. */
    private static boolean wins(State s, List<Integer> own, List<Integer> others, int note) {
        for (int p : own) if (s.how[p] != 1 && winsBy(s, own, others, note, p)) return true;
        return false;
    }

    private static boolean winsBy(State s, List<Integer> own, List<Integer> others, int note, int p) {
        int was = s.how[p];
        s.how[p] = 1;
        boolean good = s.holds(s.law(), note) && !wins(s, others, own, note);
        s.how[p] = was;
        return good;
    }

    int duel(int first, int second, int note, boolean begin) {
        if (first < 0 || first > 3 || second < 0 || second > 3 || first == second) return -2;
        if (note < 0 || note >= now.notes.size()) return -2;
        State s = now.copy();
        if (s.holds(s.law(), note)) {
            List<Integer> own = side(s, first);
            List<Integer> others = side(s, second);
            for (int p : own) if (winsBy(s, own, others, note, p)) return begin ? p : 1;
        }
        return begin ? -1 : 0;
    }

    int beside(int one, int other) {
        if (one == -1) { now.beside.clear(); return 0; }
        if (!isPerson(one) || !isPerson(other) || one == other || now.beside.size() == 8) return -2;
        now.beside.add(new int[] {one, other});
        return now.beside.size();
    }

    int chairs(int people, int person, int seat) {
        if (people <= 0 || people >= 1 << now.people.size() || Integer.bitCount(people) > 5) return -1;
        List<Integer> who = members(people);
        if (person != -1 && (!who.contains(person) || seat < 0 || seat >= who.size())) return -1;
        List<List<Integer>> all = new ArrayList<>();
        orders(who, new ArrayList<>(), all);
        int count = 0;
        for (List<Integer> row : all) {
            boolean fits = person == -1 || row.get(seat) == person;
            for (int[] t : now.beside) {
                if (who.contains(t[0]) && who.contains(t[1])) fits &= Math.abs(row.indexOf(t[0]) - row.indexOf(t[1])) == 1;
            }
            if (fits) count++;
        }
        return count;
    }

    int whoseLaw(int notes) {
        if (!isNoteSet(notes)) return -1;
        int bits = 0;
        for (int t = 0; t < now.texts.size(); t++) if (now.fell(now.texts.get(t)) == notes) bits |= 1 << t;
        return bits;
    }

    int seen(int p, int beat, int how) {
        if (p == -1) { now.seen.clear(); return 0; }
        if (!isPerson(p) || beat < 0 || beat > 9999 || how < -1 || how > 1 || now.seen.size() == 8) return -2;
        now.seen.add(new int[] {p, beat, how});
        return now.seen.size();
    }

    int starts(int p) {
        if (!isPerson(p)) return -1;
        int bits = 0;
        for (int start = 0; start <= 17; start++) {
            State s = now.copy();
            s.people.set(p, new int[] {s.people.get(p)[0], s.people.get(p)[1], start});
            boolean fits = true;
            for (int[] o : s.seen) if (o[0] == p) fits &= Integer.signum(s.breath(p, o[1])) == o[2];
            if (fits) bits |= 1 << start;
        }
        return bits;
    }

    int image() { image = now.copy(); return now.beat; }

    int back() { now = image.copy(); return now.beat; }

    int about(int what) {
        int bits = 0;
        for (int b = 0; b < 4; b++) if (now.usher[b]) bits |= 1 << b;
        int[] all = {now.seats.size(), now.people.size(), now.notes.size(), now.beat, now.x, now.texts.size(), now.ruling,
            now.steps.size(), bits, now.beside.size(), now.seen.size(), tape.length};
        return what < 0 || what >= all.length ? -2 : all[what];
    }
}
