import java.util.function.ToLongFunction;

/**
 * Towns in which nothing is as at first, and all that can be asked of one: to see that a refused call
 * answers its finding, counts it, and leaves everything else as it was.
 */
abstract class Whole extends Check {
    /** Told apart whether it is cut to 8, to 16 or to 64 bits. */
    private static final long PROBE = 0x123456789ABCDEF0L;

    static final int MISSING_SHEET = 3;

    /** A town of so many holes, the last and the first of them without a fill, in week 3, with an older image. */
    static HoleFills townOf(int holes) {
        HoleFills x = new HoleFills();
        x.weeks(3);
        x.town(1, 700);
        x.town(2, 2);
        for (int h = 0; h < holes; h++) {
            x.hole((h + 4) % 6, 5 - h % 6);
            x.set(h, 2, 10 + 7 * h);
        }
        if (holes > 2) {
            x.fill(1, 0);
            x.set(1, 4, 2);
            x.set(2, 5, 1);
        }
        x.street(1, 0, 45);
        x.street(2, 1, 1);
        x.image();
        if (holes > 0) {
            x.set(holes - 1, 2, 33);
            x.set(0, 5, 1);
        }
        x.street(3, 0, 7);
        x.town(0, 450);
        x.sheet(0, 8, 3);
        x.write(0, 1, 99);
        x.sheet(1, 16, 2);
        x.write(1, 0, 300);
        x.sheet(2, 64, 4);
        x.write(2, 3, Long.MIN_VALUE);
        feed(x, "men 5;street 4 let");
        return x;
    }

    /** The town's figures, streets and holes. */
    static String town(HoleFills x) {
        StringBuilder b = new StringBuilder("now");
        for (int what = 0; what <= 7; what++) {
            b.append(' ').append(x.now(what));
        }
        for (int street = 0; street < 6; street++) {
            b.append(" street");
            for (int what = 0; what <= 3; what++) {
                b.append(' ').append(x.streetOf(street, what));
            }
        }
        int holes = x.count(0);
        for (int hole = 0; hole < holes; hole++) {
            b.append(" hole");
            for (int what = 0; what <= 5; what++) {
                b.append(' ').append(x.of(hole, what));
            }
        }
        return b.append(" count ").append(x.count(2)).append(' ').append(x.count(3)).toString();
    }

    /** The numbers of all sheets, with the finding behind each one's last. */
    static String sheets(HoleFills x) {
        StringBuilder b = new StringBuilder();
        for (int s = 0; s < 4; s++) {
            b.append(" sheet ").append(s);
            long was = 0;
            for (int i = 0; was > BEYOND || was < SIZE; i++) {
                was = x.write(s, i, PROBE);
                b.append(' ').append(was);
                if (i == 0 && was != BEYOND && was != MISSING) {
                    b.append(" cut ").append(x.write(s, i, was));
                }
            }
        }
        return b.toString();
    }

    /** All of it, down to what the tape says and what is kept; after it the object is another. */
    static String all(HoleFills x) {
        StringBuilder b = new StringBuilder(town(x));
        b.append(" tape ").append(x.count(1));
        b.append(sheets(x));
        b.append(" text ").append(x.text()).append(' ').append(town(x));
        b.append(" undo ").append(x.undo()).append(' ').append(town(x));
        return b.toString();
    }

    /** How often each finding was counted. */
    static String findings(HoleFills x) {
        StringBuilder b = new StringBuilder();
        for (int which = 0; which <= 6; which++) {
            b.append(x.status(which)).append(' ');
        }
        return b.append(x.status(-1)).toString();
    }

    private static String findingsOf(int finding) {
        StringBuilder b = new StringBuilder();
        for (int which = 0; which <= 6; which++) {
            b.append(BEYOND - which == finding ? 1 : 0).append(' ');
        }
        return b.append(1).toString();
    }

    /** A state of an object, made anew as often as it is asked for. */
    interface State {
        HoleFills made();
    }

    /** That a call answers a finding, which is the one that is counted, and changes nothing else. */
    static void refused(String what, State state, int finding, ToLongFunction<HoleFills> call) {
        HoleFills x = state.made();
        due(what + " is counted from none on", x.status(-1), 0);
        due(what, call.applyAsLong(x), finding);
        due(what + " in status", findings(x), findingsOf(finding));
        due(what + " leaves", all(x), all(state.made()));
    }

    /** That a call is answered, without a finding. */
    static void answered(String what, State state, long want, ToLongFunction<HoleFills> call) {
        HoleFills x = state.made();
        due(what, call.applyAsLong(x), want);
        due(what + " in status", findings(x), "0 0 0 0 0 0 0 0");
    }

    /** That a call only asks: it is answered without a finding, and changes nothing. */
    static void asks(String what, State state, long want, ToLongFunction<HoleFills> call) {
        answered(what, state, want, call);
        HoleFills x = state.made();
        call.applyAsLong(x);
        due(what + " leaves", all(x), all(state.made()));
    }
}
