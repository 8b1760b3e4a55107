import java.util.IdentityHashMap;
import java.util.Map;

/** Halls that are made again for each look: what a call changed is seen by asking both twins for everything there is. */
final class Twins {
    private static final int STEPS = 30;
    private static final Map<Maker, String> KNOWN = new IdentityHashMap<>();

    interface Maker { BreatheAsOne make(); }

    interface Call { long on(BreatheAsOne x); }

    private interface Look { void at(BreatheAsOne x, StringBuilder into); }

    private Twins() { }

    /** The call answers as is due and leaves all as it was. */
    static void idle(Checks c, String what, Maker maker, long want, Call call) {
        c.due(what, call.on(maker.make()), want);
        String before = KNOWN.computeIfAbsent(maker, Twins::portrait);
        String after = portrait(() -> {
            BreatheAsOne x = maker.make();
            call.on(x);
            return x;
        });
        c.due(what + " changes nothing", after.equals(before), true);
    }

    /** As idle, for a call whose answer is told elsewhere. */
    static void onlyAsks(Checks c, String what, Maker maker, Call call) {
        idle(c, what, maker, call.on(maker.make()), call);
    }

    /** In all that can be asked both are alike. */
    static void alike(Checks c, String what, Maker one, Maker other) {
        c.due(what, portrait(one).equals(portrait(other)), true);
    }

    /** No object is asked more than 512 times for it. */
    private static String portrait(Maker maker) {
        StringBuilder into = new StringBuilder();
        into.append(of(maker, Twins::look)).append(of(maker, Twins::told));
        for (int back = 1; back <= STEPS; back++) {
            int steps = back;
            into.append(of(maker, (x, s) -> {
                for (int i = 0; i < steps; i++) s.append(x.undo()).append(' ');
                look(x, s);
            }));
        }
        into.append(of(maker, (x, s) -> {
            s.append(x.back());
            look(x, s);
        }));
        into.append(of(maker, (x, s) -> {
            x.back();
            told(x, s);
            s.append(x.undo());
        }));
        into.append(of(maker, Twins::tape)).append(of(maker, Twins::laws));
        for (int text = 0; text < 4; text++) {
            int script = text;
            into.append(of(maker, (x, s) -> {
                s.append(x.played(script));
                look(x, s);
            }));
        }
        return into.toString();
    }

    private static StringBuilder of(Maker maker, Look look) {
        StringBuilder into = new StringBuilder();
        look.at(maker.make(), into);
        return into.append('\n');
    }

    private static void look(BreatheAsOne x, StringBuilder s) {
        int seats = x.about(0);
        int people = x.about(1);
        int notes = x.about(2);
        int coughs = x.coughs(-1, 0);
        for (int i = 0; i < 12; i++) s.append(x.about(i)).append(' ');
        for (int i = 0; i < people; i++) for (int w = 0; w < 7; w++) s.append(x.of(i, w)).append(' ');
        for (int i = 0; i < seats; i++) for (int w = 0; w < 3; w++) s.append(x.ofSeat(i, w)).append(' ');
        for (int i = 0; i < notes; i++) for (int w = 0; w < 4; w++) s.append(x.ofNote(i, w)).append(' ');
        for (int i = 0; i < coughs; i++) for (int w = 0; w < 2; w++) s.append(x.coughs(i, w)).append(' ');
        s.append(x.fault(0)).append(' ').append(x.fault(1)).append(' ');
    }

    private static void told(BreatheAsOne x, StringBuilder s) {
        int people = x.about(1);
        for (int i = 0; i < people; i++) s.append(x.starts(i)).append(' ');
        for (int set = 0; set < 1 << people; set++) {
            if (Integer.bitCount(set) == 3) s.append(x.chairs(set, -1, 0)).append(' ');
        }
    }

    private static void tape(BreatheAsOne x, StringBuilder s) {
        x.back();
        int text = x.text();
        s.append(text).append(' ').append(x.fault(0)).append(' ').append(x.fault(1)).append(' ');
        s.append(x.by(text)).append(x.played(text)).append(' ');
        look(x, s);
    }

    private static void laws(BreatheAsOne x, StringBuilder s) {
        for (int text = -1; text < 4; text++) {
            s.append(x.by(text)).append(x.fell()).append(' ');
            for (int beat = 0; beat < 5; beat++) s.append(x.air(beat)).append(' ');
            for (int p = 0; p < 4; p++) s.append(x.comes(p, p + 1, false)).append('/').append(x.comes(p, p + 1, true)).append(' ');
        }
    }
}
