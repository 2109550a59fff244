import java.util.function.ToLongFunction;

/**
 * The numbers of every call, at their bounds: the least and the most that may be are taken, those just
 * beyond and far beyond are refused, and a refused call changes nothing but status(). Where two findings
 * could be told, it is the one that is asked first.
 */
public final class BoundsTest extends Whole {
    /** Far out, and such as would come back into bounds if only some of their bits were looked at. */
    private static final int[] FAR = {Integer.MIN_VALUE, Integer.MIN_VALUE + 1, -1000000001, -65536, -256, 256, 65536,
        1 << 24, Integer.MAX_VALUE - 1, Integer.MAX_VALUE};

    private interface Call {
        long on(HoleFills x, int v);
    }

    public static void main(String[] args) {
        townBounds();
        streetBounds();
        newHoleBounds();
        for (int holes = 1; holes <= 8; holes++) {
            holeBounds(holes);
        }
        noHoles();
        setBounds();
        weekBounds();
        bestBounds();
        feedBounds();
        sheetBounds();
        copyBounds();
        countBounds();
        whichIsAskedFirst();
        othersThatRefuse();
        askingChangesNothing();
        manyFindings();
        end();
    }

    private static HoleFills three() {
        return townOf(3);
    }

    private static HoleFills eight() {
        return townOf(8);
    }

    /** A number of a call, from the least to the most that may be, in a town. */
    private static void bounds(String what, State state, int least, int most, Call call) {
        for (int v : new int[] {least, most}) {
            HoleFills x = state.made();
            call.on(x, v);
            due(what + " takes " + v + ": BEYOND", x.status(0), 0);
        }
        beyond(what, state, least - 1, call);
        beyond(what, state, most + 1, call);
        for (int v : FAR) {
            if (v < least || v > most) {
                beyond(what, state, v, call);
            }
        }
    }

    private static void beyond(String what, State state, int v, Call call) {
        refused(what + " with " + v, state, BEYOND, x -> call.on(x, v));
    }

    private static void townBounds() {
        State state = BoundsTest::three;
        bounds("2: what", state, 0, 3, (x, v) -> x.town(v, 0));
        bounds("2: BUDGET", state, 0, 99999, (x, v) -> x.town(0, v));
        bounds("2: YEARLY", state, 0, 99999, (x, v) -> x.town(1, v));
        bounds("2: MEN", state, 0, 6, (x, v) -> x.town(2, v));
        bounds("2: HOT", state, 0, 1, (x, v) -> x.town(3, v));
        int[] most = {99999, 99999, 6, 1};
        int[] was = {450, 700, 2, 0};
        for (int what = 0; what < 4; what++) {
            int w = what;
            answered("2: the most", state, was[what], x -> x.town(w, most[w]));
            answered("2: the most is taken", state, most[what], x -> x.town(w, most[w]) + x.now(w + 1) - was[w]);
            answered("2: the least is taken", state, was[what], x -> x.town(w, 0) + x.now(w + 1));
        }
    }

    private static void streetBounds() {
        State state = BoundsTest::three;
        bounds("3: street", state, 0, 5, (x, v) -> x.street(v, 0, 1));
        bounds("3: what", state, 0, 1, (x, v) -> x.street(0, v, 0));
        bounds("3: TRAFFIC", state, 0, 99, (x, v) -> x.street(3, 0, v));
        bounds("3: LET", state, 0, 1, (x, v) -> x.street(3, 1, v));
        bounds("4: street", state, 0, 5, (x, v) -> x.streetOf(v, 2));
        bounds("4: what", state, 0, 3, (x, v) -> x.streetOf(5, v));
        for (int street = 0; street < 6; street++) {
            int s = street;
            int was = street == 1 ? 45 : street == 3 ? 7 : 20;
            answered("3: the most of " + s, state, was + 1000 * 99, x -> x.street(s, 0, 99) + 1000 * x.streetOf(s, 0));
            answered("3: the least of " + s, state, was, x -> x.street(s, 0, 0) + 1000 * x.streetOf(s, 0));
            int let = street == 2 ? 1 : 0;
            answered("3: let of " + s, state, let + 10, x -> x.street(s, 1, 1) + 10 * x.streetOf(s, 1));
            answered("3: not let of " + s, state, let, x -> x.street(s, 1, 0) + 10 * x.streetOf(s, 1));
        }
    }

    private static void newHoleBounds() {
        for (int holes = 0; holes < 8; holes++) {
            int had = holes;
            State state = () -> townOf(had);
            bounds("5: kind, of " + had, state, 0, 5, (x, v) -> x.hole(v, 0));
            bounds("5: street, of " + had, state, 0, 5, (x, v) -> x.hole(0, v));
            answered("5: one more than " + had, state, had, x -> x.hole(5, 5));
            answered("5: so many then", state, had + 1, x -> x.hole(0, 0) >= 0 ? x.count(0) : -1);
        }
        refused("5: a ninth", BoundsTest::eight, FULL, x -> x.hole(0, 0));
        refused("5: a ninth", BoundsTest::eight, FULL, x -> x.hole(5, 5));
    }

    /** Every call that names a hole, in a town of so many. */
    private static void holeBounds(int holes) {
        State state = () -> townOf(holes);
        int last = holes - 1;
        bounds("6: hole", state, 0, last, (x, v) -> x.of(v, 0));
        bounds("7: hole", state, 0, last, (x, v) -> x.set(v, 2, 50));
        bounds("8: hole", state, 0, last, (x, v) -> x.turn(v, 3));
        bounds("9: hole", state, 0, last, (x, v) -> x.as(v, 0));
        bounds("10: hole", state, 0, last, (x, v) -> x.fill(v, 0));
        bounds("14: hole", state, 0, last, (x, v) -> x.on(v, 1, 0));
        bounds("17: hole", state, 0, last, (x, v) -> x.filled(v));
        bounds("18: hole", state, 0, last, (x, v) -> x.breaks(v));
        bounds("23: hole", state, 0, last, (x, v) -> x.kind(v, 1));
        bounds("33: hole", state, 0, last, (x, v) -> x.book(0, v));
        bounds("34: hole", state, 0, last, (x, v) -> x.read(0, v));
        answered("6: the last one's size", state, 33, x -> x.of(last, 2));
        answered("9: the last one's size", state, 33, x -> x.as(last, 0));
    }

    private static void noHoles() {
        State state = () -> townOf(0);
        beyond("6: no hole", state, 0, (x, v) -> x.of(v, 0));
        beyond("7: no hole", state, 0, (x, v) -> x.set(v, 2, 50));
        beyond("8: no hole", state, 0, (x, v) -> x.turn(v, 3));
        beyond("9: no hole", state, 0, (x, v) -> x.as(v, 0));
        beyond("10: no hole", state, 0, (x, v) -> x.fill(v, 0));
        beyond("14: no hole", state, 0, (x, v) -> x.on(v, 1, 0));
        beyond("17: no hole", state, 0, (x, v) -> x.filled(v));
        beyond("18: no hole", state, 0, (x, v) -> x.breaks(v));
        beyond("23: no hole", state, 0, (x, v) -> x.kind(v, 1));
        beyond("33: no hole", state, 0, (x, v) -> x.book(0, v));
        beyond("34: no hole", state, 0, (x, v) -> x.read(0, v));
        refused("11: no hole", state, NONE, x -> x.next());
        refused("20: no hole", state, NONE, x -> x.ring(1));
        asks("4: no hole", state, 0, x -> x.streetOf(0, 2) + x.streetOf(0, 3));
        answered("12: no hole", state, 0, x -> x.weeks(1));
        asks("13: no hole", state, 0, x -> x.now(7));
        asks("15: no hole", state, 0, x -> x.worse(104));
        asks("16: no hole", state, 0, x -> x.cost(104));
        asks("19: no hole", state, 0, x -> x.how(104));
        asks("21: no hole", state, 0, x -> x.men(52, 0));
        asks("22: no hole", state, 0, x -> x.budget(20, 0));
        asks("24: no hole", state, 0, x -> x.let(26));
        asks("25: no hole", state, 0, x -> x.worst(104));
        answered("36: no hole", state, 0, x -> x.undo());
        asks("38: no hole", state, 0, x -> x.count(0) + x.count(2) + x.count(3));
    }

    private static void setBounds() {
        State state = BoundsTest::three;
        bounds("6: what", state, 0, 9, (x, v) -> x.of(2, v));
        bounds("7: what", state, 1, 5, (x, v) -> x.set(2, v, 0));
        int[] most = {0, 5, 99, 2, 999, 1};
        int[] was = {0, 3, 33, 0, 0, 1};
        for (int what = 1; what <= 5; what++) {
            int w = what;
            bounds("7: what " + what, state, 0, most[what], (x, v) -> x.set(2, w, v));
            answered("7: the most of " + what, state, was[what] + 1000 * most[what],
                x -> x.set(2, w, most[w]) + 1000 * x.of(2, w));
            answered("7: the least of " + what, state, was[what], x -> x.set(2, w, 0) + 1000 * x.of(2, w));
        }
        refused("7: KIND is not set", state, BEYOND, x -> x.set(2, 0, 0));
        bounds("8: kind", state, 0, 5, (x, v) -> x.turn(2, v));
        bounds("9: kind", state, 0, 5, (x, v) -> x.as(2, v));
        bounds("10: hot", state, 0, 1, (x, v) -> x.fill(2, v));
    }

    private static void weekBounds() {
        State state = BoundsTest::three;
        bounds("12: n", state, 1, 60, (x, v) -> x.weeks(v));
        answered("12: one week", state, 4, x -> x.weeks(1) >= 0 ? x.now(0) : -1);
        answered("12: sixty weeks", state, 63, x -> x.weeks(60) >= 0 ? x.now(0) : -1);
        bounds("13: what", state, 0, 7, (x, v) -> x.now(v));
        bounds("14: n", state, 0, 104, (x, v) -> x.on(2, v, 0));
        bounds("14: what", state, 0, 1, (x, v) -> x.on(2, 5, v));
        bounds("15: n", state, 0, 104, (x, v) -> x.worse(v));
        bounds("16: n", state, 0, 104, (x, v) -> x.cost(v));
        refused("12: above week 9999", () -> late(9999), STATE, x -> x.weeks(1));
        refused("12: above week 9999", () -> late(9999), STATE, x -> x.weeks(60));
        refused("12: above week 9999", () -> late(9998), STATE, x -> x.weeks(2));
        refused("12: above week 9999", () -> late(9940), STATE, x -> x.weeks(60));
        answered("12: to week 9999", () -> late(9998), 9999, x -> x.weeks(1) >= 0 ? x.now(0) : -1);
        answered("12: to week 9999", () -> late(9939), 9999, x -> x.weeks(60) >= 0 ? x.now(0) : -1);
    }

    /** A town of a few holes in a week far on. */
    private static HoleFills late(int week) {
        HoleFills x = idleAt(week);
        x.hole(BATH, 1);
        x.hole(SEAM, 5);
        x.town(2, 1);
        x.fill(0, 0);
        x.image();
        return x;
    }

    private static void bestBounds() {
        State state = BoundsTest::three;
        bounds("19: n", state, 1, 104, (x, v) -> x.how(v));
        bounds("20: n", state, 1, 52, (x, v) -> x.ring(v));
        bounds("21: n", state, 1, 52, (x, v) -> x.men(v, 999));
        bounds("21: v", state, 0, 999, (x, v) -> x.men(1, v));
        bounds("22: n", state, 1, 20, (x, v) -> x.budget(v, 999));
        bounds("22: v", state, 0, 999, (x, v) -> x.budget(1, v));
        bounds("23: n", state, 1, 52, (x, v) -> x.kind(2, v));
        bounds("24: n", state, 1, 26, (x, v) -> x.let(v));
        bounds("25: n", state, 0, 104, (x, v) -> x.worst(v));
    }

    private static HoleFills withTape(int bytes) {
        HoleFills x = three();
        x.wipe();
        feed(x, "men 3;".repeat(20).substring(0, bytes));
        return x;
    }

    private static void feedBounds() {
        bounds("26: n", BoundsTest::three, 1, 4, (x, v) -> x.feed(0x20202020, v));
        for (int n = 1; n <= 4; n++) {
            int more = n;
            answered("26: onto none", () -> withTape(0), n, x -> x.feed(0, more));
            answered("26: onto one", () -> withTape(1), n + 1, x -> x.feed(0, more));
            answered("26: up to 120", () -> withTape(120 - more), 120, x -> x.feed(0, more));
            answered("26: up to 119", () -> withTape(119 - more), 119, x -> x.feed(0, more));
            refused("26: up to 121", () -> withTape(121 - more), FULL, x -> x.feed(0, more));
            refused("26: onto 120", () -> withTape(120), FULL, x -> x.feed(0, more));
        }
        int[] any = {Integer.MIN_VALUE, -1, 0, 1, Integer.MAX_VALUE};
        for (int bytes : any) {
            answered("26: any number", () -> withTape(0), 4, x -> x.feed(bytes, 4));
        }
        for (int bytes : new int[] {0, 1, 119, 120}) {
            answered("27: so many", () -> withTape(bytes), bytes, x -> x.wipe());
            answered("27: none then", () -> withTape(bytes), 0, x -> x.wipe() >= 0 ? x.wipe() + x.count(1) : -1);
            asks("38: so many", () -> withTape(bytes), bytes, x -> x.count(1));
        }
    }

    private static void sheetBounds() {
        State state = BoundsTest::three;
        for (int bits : new int[] {0, 8, 16, 64}) {
            bounds("29: sheet", state, 0, 3, (x, v) -> x.sheet(v, bits, 1));
            answered("29: none", state, 0, x -> x.sheet(1, bits, 0));
            answered("29: one", state, bits == 0 ? 0 : 1, x -> x.sheet(1, bits, 1));
            answered("29: forty", state, bits == 0 ? 0 : 40, x -> x.sheet(1, bits, 40));
            for (int n : new int[] {41, 42, 256, 65536, 1 << 24, Integer.MAX_VALUE}) {
                refused("29: n above 40, " + bits + " bits", state, BEYOND, x -> x.sheet(1, bits, n));
            }
            for (int n : new int[] {-1, -2, -40, -256, -65536, Integer.MIN_VALUE}) {
                refused("29: n below 0, " + bits + " bits", state, SIZE, x -> x.sheet(1, bits, n));
            }
        }
        for (int bits : new int[] {Integer.MIN_VALUE, -64, -8, -1, 1, 7, 9, 15, 17, 24, 32, 63, 65, 128, 264, 65544,
            Integer.MAX_VALUE}) {
            refused("29: other bits", state, BEYOND, x -> x.sheet(1, bits, 1));
        }
        bounds("30: sheet", state, 0, 3, (x, v) -> x.write(v, 0, 7));
        int[] lengths = {3, 2, 4};
        for (int sheet = 0; sheet < 3; sheet++) {
            int s = sheet;
            bounds("30: number", state, 0, lengths[sheet] - 1, (x, v) -> x.write(s, v, 7));
        }
        bounds("32: sheet", state, 0, 3, (x, v) -> x.lays(v));
        bounds("33: sheet", state, 0, 3, (x, v) -> x.book(v, 0));
        bounds("34: sheet", state, 0, 3, (x, v) -> x.read(v, 0));
        refused("30: missing", state, MISSING, x -> x.write(MISSING_SHEET, 0, 7));
        refused("32: missing", state, MISSING, x -> x.lays(MISSING_SHEET));
        refused("33: missing", state, MISSING, x -> x.book(MISSING_SHEET, 0));
        refused("34: missing", state, MISSING, x -> x.read(MISSING_SHEET, 0));
    }

    /** Sheets 0 of 5 and 1 of 3 numbers of 16 bits, 2 of 8 bits, 3 missing. */
    private static HoleFills copyable() {
        HoleFills x = three();
        x.sheet(0, 16, 5);
        x.sheet(1, 16, 3);
        x.sheet(2, 8, 5);
        for (int i = 0; i < 5; i++) {
            x.write(0, i, 11 * i);
            x.write(1, i % 3, 1000 + i);
            x.write(2, i, i);
        }
        return x;
    }

    private static void copyBounds() {
        State state = BoundsTest::copyable;
        bounds("31: sheet", state, 0, 3, (x, v) -> x.copy(v, 0, 1, 0, 1));
        bounds("31: sheet", state, 0, 3, (x, v) -> x.copy(1, 0, v, 0, 1));
        bounds("31: n", state, 0, 3, (x, v) -> x.copy(0, 0, 1, 0, v));
        bounds("31: n", state, 0, 3, (x, v) -> x.copy(1, 0, 0, 0, v));
        bounds("31: n", state, 0, 2, (x, v) -> x.copy(0, 3, 1, 0, v));
        bounds("31: n", state, 0, 2, (x, v) -> x.copy(0, 0, 1, 1, v));
        bounds("31: n", state, 0, 5, (x, v) -> x.copy(0, 0, 0, 0, v));
        bounds("31: from", state, 0, 3, (x, v) -> x.copy(0, v, 1, 0, 2));
        bounds("31: from", state, 0, 5, (x, v) -> x.copy(0, v, 1, 0, 0));
        bounds("31: to", state, 0, 1, (x, v) -> x.copy(0, 0, 1, v, 2));
        bounds("31: to", state, 0, 3, (x, v) -> x.copy(0, 0, 1, v, 0));
        refused("31: the first is missing", state, MISSING, x -> x.copy(3, 0, 0, 0, 1));
        refused("31: the second is missing", state, MISSING, x -> x.copy(0, 0, 3, 0, 1));
        refused("31: both are", state, MISSING, x -> x.copy(3, 0, 3, 0, 0));
        refused("31: 16 and 8 bits", state, KIND, x -> x.copy(0, 0, 2, 0, 1));
        refused("31: 8 and 16 bits", state, KIND, x -> x.copy(2, 0, 0, 0, 1));
        // Sums that would come back into bounds if they wrapped round.
        refused("31: n and from", state, BEYOND, x -> x.copy(0, Integer.MAX_VALUE, 1, 0, Integer.MAX_VALUE));
        refused("31: n and to", state, BEYOND, x -> x.copy(0, 0, 1, Integer.MAX_VALUE, Integer.MAX_VALUE));
        refused("31: n and from", state, BEYOND, x -> x.copy(0, Integer.MIN_VALUE, 1, 0, Integer.MIN_VALUE));
        refused("31: n and both", state, BEYOND, x -> x.copy(0, 1, 1, 1, Integer.MAX_VALUE));
        refused("31: n and both", state, BEYOND, x -> x.copy(0, 3, 1, 2, -1));
    }

    private static void countBounds() {
        bounds("38: what", BoundsTest::three, 0, 3, (x, v) -> x.count(v));
        bounds("39: which", BoundsTest::three, -1, 6, (x, v) -> x.status(v));
        for (int v : new int[] {-2, 7, Integer.MIN_VALUE, Integer.MAX_VALUE}) {
            HoleFills x = three();
            due("39: another one", x.status(v), BEYOND);
            due("39: is counted from then on", x.status(0), 1);
            due("39: is counted from then on", x.status(-1), 1);
        }
    }

    private static void whichIsAskedFirst() {
        State eight = BoundsTest::eight;
        refused("5: kind, and full", eight, BEYOND, x -> x.hole(6, 0));
        refused("5: kind, and full", eight, BEYOND, x -> x.hole(-1, 0));
        refused("5: street, and full", eight, BEYOND, x -> x.hole(0, 6));
        refused("5: street, and full", eight, BEYOND, x -> x.hole(0, -1));
        refused("9: no such kind, though it is not of it", eight, BEYOND, x -> x.as(2, 6));
        refused("9: no such hole", eight, BEYOND, x -> x.as(8, 1));
        refused("10: hot, and it has a fill", eight, BEYOND, x -> x.fill(1, 2));
        refused("10: hot, and it has a fill", eight, BEYOND, x -> x.fill(1, -1));
        refused("10: no such hole, and no budget", () -> poor(8), BEYOND, x -> x.fill(8, 0));
        refused("10: hot, and no budget", () -> poor(8), BEYOND, x -> x.fill(0, 2));
        refused("12: n, and above week 9999", () -> late(9999), BEYOND, x -> x.weeks(61));
        refused("12: n, and above week 9999", () -> late(9999), BEYOND, x -> x.weeks(Integer.MAX_VALUE));
        refused("12: n, in week 9999", () -> late(9999), BEYOND, x -> x.weeks(0));
        refused("20: n, and no hole", () -> townOf(0), BEYOND, x -> x.ring(0));
        refused("20: n, and no hole", () -> townOf(0), BEYOND, x -> x.ring(53));
        refused("21: v, where it is never so little", eight, BEYOND, x -> x.men(1, -1));
        refused("22: v, where it is never so little", eight, BEYOND, x -> x.budget(1, -1));
        refused("26: n, and full", () -> withTape(120), BEYOND, x -> x.feed(0, 5));
        refused("26: n, and full", () -> withTape(120), BEYOND, x -> x.feed(0, 0));
        State three = BoundsTest::three;
        refused("29: sheet, and n below 0", three, BEYOND, x -> x.sheet(4, 8, -1));
        refused("29: sheet, and n below 0", three, BEYOND, x -> x.sheet(-1, 0, -1));
        refused("29: bits, and n below 0", three, BEYOND, x -> x.sheet(0, 32, -1));
        refused("30: sheet, and number", three, BEYOND, x -> x.write(4, -1, 0));
        refused("30: missing, and number", three, MISSING, x -> x.write(MISSING_SHEET, -1, 0));
        refused("30: missing, and number", three, MISSING, x -> x.write(MISSING_SHEET, 40, 0));
        refused("33: missing, and hole", three, MISSING, x -> x.book(MISSING_SHEET, 3));
        refused("33: sheet, and hole", three, BEYOND, x -> x.book(4, 3));
        refused("34: missing, and hole", three, MISSING, x -> x.read(MISSING_SHEET, -1));
        refused("34: sheet, and hole", three, BEYOND, x -> x.read(-1, -1));
        whichCopyAsksFirst();
    }

    private static void whichCopyAsksFirst() {
        State state = BoundsTest::copyable;
        refused("31: sheet, and one is missing", state, BEYOND, x -> x.copy(4, 0, 3, 0, 0));
        refused("31: sheet, and one is missing", state, BEYOND, x -> x.copy(3, 0, 4, 0, 0));
        refused("31: sheet, and one is missing", state, BEYOND, x -> x.copy(3, 0, -1, 0, 0));
        refused("31: missing, and n", state, MISSING, x -> x.copy(3, 0, 0, 0, -1));
        refused("31: missing, and from", state, MISSING, x -> x.copy(0, -1, 3, 0, 1));
        refused("31: bits, and n", state, KIND, x -> x.copy(0, 0, 2, 0, -1));
        refused("31: bits, and from", state, KIND, x -> x.copy(0, 6, 2, 0, 1));
        refused("31: bits, and to", state, KIND, x -> x.copy(0, 0, 2, -1, 1));
    }

    /** A town of so many holes without any money. */
    private static HoleFills poor(int holes) {
        HoleFills x = townOf(holes);
        x.town(0, 0);
        return x;
    }

    private static HoleFills allRungFor() {
        HoleFills x = eight();
        for (int h = 0; h < 8; h++) {
            x.set(h, 5, 1);
        }
        return x;
    }

    private static HoleFills allFilled() {
        HoleFills x = eight();
        for (int h = 0; h < 8; h++) {
            x.set(h, 3, 2);
        }
        return x;
    }

    private static HoleFills allLetGo() {
        HoleFills x = eight();
        for (int s = 0; s < 6; s++) {
            x.street(s, 1, 1);
        }
        return x;
    }

    private static HoleFills torn() {
        HoleFills x = three();
        x.tear();
        return x;
    }

    private static void othersThatRefuse() {
        State eight = BoundsTest::eight;
        refused("9: a hole of another kind", eight, KIND, x -> x.as(0, 2));
        refused("9: a hole of a kind above", eight, KIND, x -> x.as(2, 4));
        refused("10: it has a fill", eight, STATE, x -> x.fill(1, 0));
        refused("10: it has a fill", eight, STATE, x -> x.fill(1, 1));
        refused("10: no money", () -> poor(8), STATE, x -> x.fill(0, 0));
        refused("11: no money", () -> poor(8), NONE, x -> x.next());
        refused("11: all filled", BoundsTest::allFilled, NONE, x -> x.next());
        refused("11: all let go", BoundsTest::allLetGo, NONE, x -> x.next());
        refused("17: all let go", BoundsTest::allLetGo, NONE, x -> x.filled(0));
        refused("20: all are rung for", BoundsTest::allRungFor, NONE, x -> x.ring(1));
        refused("20: all are rung for", BoundsTest::allRungFor, NONE, x -> x.ring(52));
        refused("21: all let go", BoundsTest::allLetGo, NONE, x -> x.men(1, 0));
        refused("22: all let go", BoundsTest::allLetGo, NONE, x -> x.budget(1, 0));
        refused("36: nothing kept", BoundsTest::torn, NONE, x -> x.undo());
        answered("37: nothing kept is no finding", BoundsTest::torn, 0, x -> x.tear());
    }

    private static void asking(String what, ToLongFunction<HoleFills> call) {
        HoleFills x = eight();
        call.applyAsLong(x);
        due(what + " has no finding", x.status(-1), 0);
        due(what + " leaves", all(x), all(eight()));
    }

    private static void askingChangesNothing() {
        for (int what = 0; what <= 9; what++) {
            int w = what;
            asking("6", x -> x.of(7, w));
        }
        asking("9", x -> x.as(7, 0));
        asking("11", x -> x.next());
        asking("14: size", x -> x.on(7, 104, 0));
        asking("14: fill", x -> x.on(7, 104, 1));
        asking("15", x -> x.worse(104));
        asking("16", x -> x.cost(104));
        asking("17", x -> x.filled(7));
        asking("18", x -> x.breaks(1));
        asking("19", x -> x.how(104));
        asking("20", x -> x.ring(52));
        asking("21", x -> x.men(52, 999));
        asking("22", x -> x.budget(20, 999));
        asking("23", x -> x.kind(7, 52));
        asking("24", x -> x.let(26));
        asking("25", x -> x.worst(104));
        asking("34", x -> x.read(0, 7));
        asking("31: none", x -> x.copy(0, 3, 0, 0, 0));
        asking("38", x -> x.count(3));
        asking("39", x -> x.status(6));
    }

    private static void manyFindings() {
        HoleFills x = new HoleFills();
        for (int i = 0; i < 500; i++) {
            x.undo();
        }
        due("39: so many", x.status(3), 500);
        due("39: so many", x.status(-1), 500);
        due("39: none of others", x.status(0), 0);

        x = three();
        for (int h = 3; h < 8; h++) {
            x.hole(0, 0);
        }
        x.hole(0, 0);
        x.image();
        x.undo();
        due("39: undo() takes none back", x.status(1), 1);
        x.hole(0, 0);
        x.undo();
        due("39: undo() takes none back", x.status(1), 2);
        x.tear();
        due("39: nor does tear()", x.status(1), 2);
    }
}
