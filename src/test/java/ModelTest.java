import java.util.ArrayList;
import java.util.Arrays;
import java.util.List;
import java.util.function.Consumer;
import java.util.function.ToIntFunction;
import java.util.regex.Matcher;
import java.util.regex.Pattern;

/**
 * Long runs of calls, each compared with a second, plain reading of the document: kinds are classes,
 * every budget is tried, findings are thrown. It shares nothing with the program.
 */
public final class ModelTest {
    private static final int RUNS = 400;
    private static final int CALLS = 300;

    private static final class Finding extends RuntimeException {
        private static final long serialVersionUID = 1;
        final int code;

        Finding(int code) {
            super(null, null, false, false);
            this.code = code;
        }
    }

    private static final class Fault extends RuntimeException {
        private static final long serialVersionUID = 1;
        final int place;

        Fault(int place) {
            super(null, null, false, false);
            this.place = place;
        }
    }

    private static final int BEYOND = 0;
    private static final int FULL = 1;
    private static final int KIND = 2;
    private static final int NONE = 3;
    private static final int STATE = 4;
    private static final int MISSING = 5;
    private static final int SIZE = 6;

    private static void unless(boolean fine, int code) {
        if (!fine) {
            throw new Finding(code);
        }
    }

    private static boolean in(long v, long least, long most) {
        return least <= v && v <= most;
    }

    // ---- the model's holes

    private static class Hole {
        int street;
        int size = 5;
        int fill;
        int age;
        int rung;

        int grows(int w, int t) {
            return 1 + t / 10 + (frost(w) ? 2 : 0);
        }

        int holds(int f) {
            return f == 1 ? 3 : 40;
        }

        int costs() {
            return 5 + size / 10;
        }

        static boolean frost(int w) {
            return !in(w, 10, 45);
        }
    }

    private static class Bath extends Hole {
        @Override
        int grows(int w, int t) {
            return super.grows(w, t) + size / 20;
        }

        @Override
        int holds(int f) {
            return super.holds(f) - 1;
        }

        @Override
        int costs() {
            return super.costs() + 3;
        }
    }

    private static class Crack extends Hole {
        @Override
        int grows(int w, int t) {
            return 1;
        }

        @Override
        int holds(int f) {
            return super.holds(f) + 5;
        }

        @Override
        int costs() {
            return 2;
        }
    }

    private static final class Joint extends Hole {
        @Override
        int grows(int w, int t) {
            return super.grows(w, t) + (w % 9 == 0 ? 3 : 0);
        }

        @Override
        int holds(int f) {
            return super.holds(f) / 2;
        }
    }

    private static final class Duck extends Bath {
        @Override
        int grows(int w, int t) {
            return Math.max(super.grows(w, t) - 1, 0);
        }

        @Override
        int costs() {
            return super.costs() - 2;
        }
    }

    private static final class Seam extends Crack {
        @Override
        int grows(int w, int t) {
            return super.grows(w, t) * (frost(w) ? 2 : 1);
        }

        @Override
        int holds(int f) {
            return super.holds(f) * 2;
        }

        @Override
        int costs() {
            return super.costs() + 1;
        }
    }

    private static final List<Class<? extends Hole>> KINDS =
        List.of(Hole.class, Bath.class, Crack.class, Joint.class, Duck.class, Seam.class);
    private static final List<String> NAMES = List.of("hole", "bath", "crack", "joint", "duck", "seam");

    private static Hole make(int kind) {
        switch (kind) {
            case 0:
                return new Hole();
            case 1:
                return new Bath();
            case 2:
                return new Crack();
            case 3:
                return new Joint();
            case 4:
                return new Duck();
            default:
                return new Seam();
        }
    }

    private static Hole remade(Hole h, int kind) {
        Hole made = make(kind);
        made.street = h.street;
        made.size = h.size;
        made.fill = h.fill;
        made.age = h.age;
        made.rung = h.rung;
        return made;
    }

    private static int kindOf(Hole h) {
        return KINDS.indexOf(h.getClass());
    }

    // ---- the model's town

    private static final class Town {
        int week;
        int budget = 500;
        int yearly = 500;
        int men = 1;
        int hot;
        int spent;
        int[] traffic = {20, 20, 20, 20, 20, 20};
        int[] let = new int[6];
        List<Hole> holes = new ArrayList<>();

        Town twin() {
            Town t = new Town();
            t.week = week;
            t.budget = budget;
            t.yearly = yearly;
            t.men = men;
            t.hot = hot;
            t.spent = spent;
            t.traffic = traffic.clone();
            t.let = let.clone();
            for (Hole h : holes) {
                t.holes.add(remade(h, kindOf(h)));
            }
            return t;
        }

        Town on(int n) {
            return on(n, t -> { });
        }

        Town on(int n, Consumer<Town> change) {
            Town t = twin();
            change.accept(t);
            for (int i = 0; i < n; i++) {
                t.goWeek();
            }
            return t;
        }

        int price(Hole h) {
            return hot == 1 ? 11 * h.costs() : h.costs();
        }

        /** Ducks, rung for, size, and the lesser number, as one number. */
        int rank(Hole h) {
            return ((h instanceof Duck ? 2 : 0) + h.rung) * 1000000 + h.size * 1000 - holes.indexOf(h);
        }

        Hole first() {
            return holes.stream()
                .filter(h -> h.fill == 0 && let[h.street] == 0 && price(h) <= budget)
                .max((a, b) -> Integer.compare(rank(a), rank(b)))
                .orElse(null);
        }

        void fillNow(Hole h, int how) {
            int price = how == 1 ? 11 * h.costs() : h.costs();
            budget -= price;
            spent = Math.min(9999999, spent + price);
            h.fill = how + 1;
            h.age = 0;
            h.rung = 0;
        }

        void goWeek() {
            for (int i = 0; i < men; i++) {
                Hole h = first();
                if (h != null) {
                    fillNow(h, hot);
                }
            }
            boolean[] had = new boolean[holes.size()];
            for (int i = 0; i < had.length; i++) {
                had[i] = holes.get(i).fill != 0;
            }
            for (int i = 0; i < had.length; i++) {
                Hole h = holes.get(i);
                if (had[i]) {
                    h.age = Math.min(999, h.age + 1);
                    if (h.age > h.holds(h.fill)) {
                        h.fill = 0;
                    }
                } else {
                    h.size = Math.min(99, h.size + h.grows(week % 52, traffic[h.street]));
                }
            }
            week++;
            if (week % 52 == 12) {
                budget = yearly;
            }
        }

        int worse() {
            return holes.stream().filter(h -> h.fill == 0).mapToInt(h -> h.size).sum();
        }

        int set(ToIntFunction<Hole> test) {
            int bits = 0;
            for (int i = 0; i < holes.size(); i++) {
                bits |= test.applyAsInt(holes.get(i)) << i;
            }
            return bits;
        }
    }

    // ---- the model's text

    private static final class Text {
        final List<String> tokens = new ArrayList<>();
        final List<Integer> places = new ArrayList<>();
        final Town town;
        int at = 0;

        Text(String all, Town town) {
            this.town = town;
            Matcher m = Pattern.compile("[a-z]+|[0-9]+|[^ ]", Pattern.DOTALL).matcher(all);
            while (m.find()) {
                tokens.add(m.group());
                places.add(m.start());
            }
            tokens.add("");
            places.add(all.length());
        }

        Fault fault() {
            return new Fault(places.get(at));
        }

        boolean perhaps(String word) {
            boolean is = tokens.get(at).equals(word);
            if (is) {
                at++;
            }
            return is;
        }

        int number(int most) {
            String digits = tokens.get(at);
            if (!digits.matches("[0-9]+") || new java.math.BigInteger(digits).bitLength() > 30
                || Integer.parseInt(digits.replaceFirst("^0+(?=.)", "")) > most) {
                throw fault();
            }
            at++;
            return Integer.parseInt(digits.replaceFirst("^0+(?=.)", ""));
        }

        int items() {
            int items = 0;
            do {
                item();
                items++;
            } while (perhaps(";"));
            if (at != tokens.size() - 1) {
                throw fault();
            }
            return items;
        }

        void item() {
            int kind = NAMES.indexOf(tokens.get(at));
            if (kind >= 0) {
                if (town.holes.size() == 8) {
                    throw fault();
                }
                at++;
                Hole h = make(kind);
                town.holes.add(h);
                h.street = perhaps("in") ? number(5) : 0;
                h.size = perhaps("size") ? number(99) : 5;
                h.fill = perhaps("cold") ? 1 : perhaps("hot") ? 2 : 0;
                h.rung = perhaps("rung") ? 1 : 0;
            } else if (perhaps("street")) {
                int s = number(5);
                if (perhaps("traffic")) {
                    town.traffic[s] = number(99);
                }
                town.let[s] = perhaps("let") ? 1 : 0;
            } else if (perhaps("budget")) {
                town.budget = number(9999);
            } else if (perhaps("men")) {
                town.men = number(6);
            } else {
                throw fault();
            }
        }
    }

    // ---- the model

    private Town t = new Town();
    private Town kept;
    private String tape = "";
    private final long[][] sheets = new long[4][];
    private final int[] bits = new int[4];
    private final int[] found = new int[7];

    private Hole at(long h) {
        unless(in(h, 0, t.holes.size() - 1), BEYOND);
        return t.holes.get((int) h);
    }

    private long[] sheetAt(long s) {
        unless(in(s, 0, 3), BEYOND);
        unless(sheets[(int) s] != null, MISSING);
        return sheets[(int) s];
    }

    private static long cut(int bits, long v) {
        return bits == 64 ? v : v << (64 - bits) >> (64 - bits);
    }

    /** What a call is due to answer. */
    long due(int call, long[] a) {
        try {
            return call < 14 ? townCalls(call, a) : call < 25 ? bestCalls(call, a) : otherCalls(call, a);
        } catch (Finding f) {
            found[f.code]++;
            return -1000000001 - f.code;
        }
    }

    private static int change(int[] row, int i, int v) {
        int was = row[i];
        row[i] = v;
        return was;
    }

    private long town(int what, long v) {
        unless(in(what, 0, 3) && in(v, 0, new int[] {99999, 99999, 6, 1}[what]), BEYOND);
        int[] all = {t.budget, t.yearly, t.men, t.hot};
        int was = change(all, what, (int) v);
        t.budget = all[0];
        t.yearly = all[1];
        t.men = all[2];
        t.hot = all[3];
        return was;
    }

    private long set(Hole h, int what, long v) {
        unless(in(what, 1, 5) && in(v, 0, new int[] {0, 5, 99, 2, 999, 1}[what]), BEYOND);
        int[] all = {0, h.street, h.size, h.fill, h.age, h.rung};
        int was = change(all, what, (int) v);
        h.street = all[1];
        h.size = all[2];
        h.fill = all[3];
        h.age = all[4];
        h.rung = all[5];
        return was;
    }

    private long townCalls(int call, long[] a) {
        int a0 = (int) a[0];
        int a1 = (int) a[1];
        switch (call) {
            case 0:
                return town(a0, a[1]);
            case 1:
                unless(in(a0, 0, 5) && in(a1, 0, 1) && in(a[2], 0, a1 == 0 ? 99 : 1), BEYOND);
                return change(a1 == 0 ? t.traffic : t.let, a0, (int) a[2]);
            case 2:
                unless(in(a0, 0, 5) && in(a1, 0, 3), BEYOND);
                return a1 == 0 ? t.traffic[a0] : a1 == 1 ? t.let[a0]
                    : t.set(h -> h.street == a0 && (a1 == 2 || h.fill == 0) ? 1 : 0);
            case 3:
                unless(in(a0, 0, 5) && in(a1, 0, 5), BEYOND);
                unless(t.holes.size() < 8, FULL);
                t.holes.add(make(a0));
                t.holes.get(t.holes.size() - 1).street = a1;
                return t.holes.size() - 1;
            case 4:
                Hole h = at(a0);
                unless(in(a1, 0, 9), BEYOND);
                return new int[] {kindOf(h), h.street, h.size, h.fill, h.age, h.rung,
                    h.grows(t.week % 52, t.traffic[h.street]), h.costs(), h.holds(1), h.holds(2)}[a1];
            case 5:
                return set(at(a0), a1, a[2]);
            case 6:
                Hole old = at(a0);
                unless(in(a1, 0, 5), BEYOND);
                t.holes.set(a0, remade(old, a1));
                return kindOf(old);
            case 7:
                Hole one = at(a0);
                unless(in(a1, 0, 5), BEYOND);
                unless(KINDS.get(a1).isInstance(one), KIND);
                return one.size;
            case 8:
                Hole f = at(a0);
                unless(in(a1, 0, 1), BEYOND);
                int price = f.costs() * (a1 == 1 ? 11 : 1);
                unless(f.fill == 0 && price <= t.budget, STATE);
                t.fillNow(f, a1);
                return price;
            case 9:
                unless(t.first() != null, NONE);
                return t.holes.indexOf(t.first());
            case 10:
                unless(in(a0, 1, 60), BEYOND);
                unless(t.week + a0 <= 9999, STATE);
                t = t.on(a0);
                return t.set(o -> o.fill == 0 ? 1 : 0);
            case 11:
                unless(in(a0, 0, 7), BEYOND);
                return new int[] {t.week, t.budget, t.yearly, t.men, t.hot, t.spent,
                    Hole.frost(t.week % 52) ? 1 : 0, t.worse()}[a0];
            case 12:
                at(a0);
                unless(in(a1, 0, 104) && in(a[2], 0, 1), BEYOND);
                Hole then = t.on(a1).holes.get(a0);
                return a[2] == 0 ? then.size : then.fill;
            default:
                unless(in(a0, 0, 104), BEYOND);
                return t.on(a0).worse();
        }
    }

    /** The least of 0 .. n - 1, but for those left out, that makes what is asked least. */
    private static int best(int n, java.util.function.IntPredicate may, java.util.function.IntUnaryOperator asked) {
        int best = -1;
        int least = Integer.MAX_VALUE;
        for (int i = 0; i < n; i++) {
            if (may.test(i)) {
                int got = asked.applyAsInt(i);
                if (got < least) {
                    best = i;
                    least = got;
                }
            }
        }
        unless(best >= 0, NONE);
        return best;
    }

    private int firstWeek(int hole, boolean withFill) {
        at(hole);
        for (int n = 0; n <= 104; n++) {
            if (t.on(n).holes.get(hole).fill != 0 == withFill) {
                return n;
            }
        }
        throw new Finding(NONE);
    }

    private long bestCalls(int call, long[] a) {
        int n = (int) a[0];
        int v = (int) a[1];
        switch (call) {
            case 14:
                unless(in(n, 0, 104), BEYOND);
                return t.on(n).spent - t.spent;
            case 15:
                return firstWeek(n, true);
            case 16:
                return firstWeek(n, false);
            case 17:
                unless(in(n, 1, 104), BEYOND);
                return best(2, i -> true, i -> t.on(n, u -> u.hot = i).worse());
            case 18:
                unless(in(n, 1, 52), BEYOND);
                return best(t.holes.size(), i -> t.holes.get(i).rung == 0,
                    i -> t.on(n, u -> u.holes.get(i).rung = 1).worse());
            case 19:
                unless(in(n, 1, 52) && in(v, 0, 999), BEYOND);
                return best(7, i -> t.on(n, u -> u.men = i).worse() <= v, i -> 0);
            case 20:
                unless(in(n, 1, 20) && in(v, 0, 999), BEYOND);
                return best(1000, i -> t.on(n, u -> u.budget = i).worse() <= v, i -> i);
            case 21:
                at(n);
                unless(in(v, 1, 52), BEYOND);
                return best(6, i -> true,
                    i -> t.on(v, u -> u.holes.set(n, remade(u.holes.get(n), i))).holes.get(n).size);
            case 22:
                unless(in(n, 1, 26), BEYOND);
                return best(64, i -> true, i -> t.on(n, u -> Arrays.setAll(u.let, s -> i >> s & 1)).worse());
            case 23:
                unless(in(n, 0, 104), BEYOND);
                Town then = t.on(n);
                return best(6, i -> true, i -> -then.holes.stream()
                    .filter(h -> h.street == i && h.fill == 0).mapToInt(h -> h.size).sum());
            default:
                unless(in(v, 1, 4), BEYOND);
                unless(tape.length() + v <= 120, FULL);
                for (int i = v; i > 0; i--) {
                    tape += (char) (n >>> 8 * (i - 1) & 255);
                }
                return tape.length();
        }
    }

    private long text() {
        String all = tape;
        tape = "";
        Town u = t.twin();
        try {
            int items = new Text(all, u).items();
            t = u;
            return items;
        } catch (Fault f) {
            return -1 - f.place;
        }
    }

    private long copy(long[] a) {
        unless(in(a[0], 0, 3) && in(a[2], 0, 3), BEYOND);
        long[] s = sheetAt(a[0]);
        long[] to = sheetAt(a[2]);
        unless(bits[(int) a[0]] == bits[(int) a[2]], KIND);
        unless(in(a[1], 0, s.length - a[4]) && in(a[3], 0, to.length - a[4]) && a[4] >= 0, BEYOND);
        long[] was = s.clone();
        for (int i = 0; i < a[4]; i++) {
            to[(int) a[3] + i] = was[(int) a[1] + i];
        }
        return a[4];
    }

    private long read(long[] row, int hole) {
        at(hole);
        int pairs = 0;
        for (int pair = 0; pair < 18; pair++) {
            int p = pair;
            boolean just = true;
            for (int i = 0; i < row.length && just; i++) {
                just = row[i] == t.on(i, u -> {
                    Hole h = remade(u.holes.get(hole), p / 3);
                    h.fill = p % 3;
                    h.age = 0;
                    u.holes.set(hole, h);
                }).holes.get(hole).size;
            }
            pairs += just ? 1 : 0;
        }
        return pairs;
    }

    private long otherCalls(int call, long[] a) {
        int a0 = (int) a[0];
        int a1 = (int) a[1];
        switch (call) {
            case 25:
                int had = tape.length();
                tape = "";
                return had;
            case 26:
                return text();
            case 27:
                unless(in(a0, 0, 3) && List.of(0, 8, 16, 64).contains(a1), BEYOND);
                unless(a[2] >= 0, SIZE);
                unless(a[2] <= 40, BEYOND);
                bits[a0] = a1;
                sheets[a0] = a1 == 0 ? null : new long[(int) a[2]];
                return a1 == 0 ? 0 : a[2];
            case 28:
                long[] row = sheetAt(a0);
                unless(in(a1, 0, row.length - 1), BEYOND);
                long was = row[a1];
                row[a1] = cut(bits[a0], a[2]);
                return was;
            case 29:
                return copy(a);
            case 30:
                long[] laid = sheetAt(a0);
                int came = 0;
                for (int i = 0; i < Math.min(6, laid.length); i++) {
                    if (in(laid[i], 0, 99)) {
                        t.traffic[i] = (int) laid[i];
                        came++;
                    }
                }
                return came;
            case 31:
                long[] booked = sheetAt(a0);
                at(a1);
                Arrays.setAll(booked, i -> t.on(i).holes.get(a1).size);
                return booked.length;
            case 32:
                return read(sheetAt(a0), a1);
            case 33:
                kept = t.twin();
                return 1;
            case 34:
                unless(kept != null, NONE);
                t = kept.twin();
                return t.holes.size();
            case 35:
                int torn = kept == null ? 0 : 1;
                kept = null;
                return torn;
            case 36:
                unless(in(a0, 0, 3), BEYOND);
                return a0 == 0 ? t.holes.size() : a0 == 1 ? tape.length()
                    : t.holes.stream().filter(h -> a0 == 2 ? h.fill != 0 : h.rung != 0).count();
            default:
                unless(in(a0, -1, 6), BEYOND);
                return a0 < 0 ? Arrays.stream(found).sum() : found[a0];
        }
    }

    // ---- the program

    private static final String[] CALL_NAMES = {"town", "street", "streetOf", "hole", "of", "set", "turn", "as", "fill",
        "next", "weeks", "now", "on", "worse", "cost", "filled", "breaks", "how", "ring", "men", "budget", "kind", "let",
        "worst", "feed", "wipe", "text", "sheet", "write", "copy", "lays", "book", "read", "image", "undo", "tear",
        "count", "status"};

    private static long ask(HoleFills x, int call, long[] a) {
        int i = (int) a[0];
        int j = (int) a[1];
        int k = (int) a[2];
        switch (call) {
            case 0: return x.town(i, j);
            case 1: return x.street(i, j, k);
            case 2: return x.streetOf(i, j);
            case 3: return x.hole(i, j);
            case 4: return x.of(i, j);
            case 5: return x.set(i, j, k);
            case 6: return x.turn(i, j);
            case 7: return x.as(i, j);
            case 8: return x.fill(i, j);
            case 9: return x.next();
            case 10: return x.weeks(i);
            case 11: return x.now(i);
            case 12: return x.on(i, j, k);
            case 13: return x.worse(i);
            case 14: return x.cost(i);
            case 15: return x.filled(i);
            case 16: return x.breaks(i);
            case 17: return x.how(i);
            case 18: return x.ring(i);
            case 19: return x.men(i, j);
            case 20: return x.budget(i, j);
            case 21: return x.kind(i, j);
            case 22: return x.let(i);
            case 23: return x.worst(i);
            case 24: return x.feed(i, j);
            case 25: return x.wipe();
            case 26: return x.text();
            case 27: return x.sheet(i, j, k);
            case 28: return x.write(i, j, a[2]);
            case 29: return x.copy(i, j, k, (int) a[3], (int) a[4]);
            case 30: return x.lays(i);
            case 31: return x.book(i, j);
            case 32: return x.read(i, j);
            case 33: return x.image();
            case 34: return x.undo();
            case 35: return x.tear();
            case 36: return x.count(i);
            default: return x.status(i);
        }
    }

    // ---- the runs

    /** Numbers that look like chance, the same in every run of the test. */
    private static final class Dice {
        private long seed;

        Dice(long seed) {
            this.seed = seed * 2654435761L + 12345;
        }

        int below(int n) {
            seed = seed * 6364136223846793005L + 1442695040888963407L;
            return (int) ((seed >>> 33) % n);
        }

        /** Mostly within bounds, now and then at them, just beyond them or far out. */
        int around(int least, int most) {
            switch (below(40)) {
                case 0:
                    return least - 1;
                case 1:
                    return most + 1;
                case 2:
                    return below(2) == 0 ? Integer.MIN_VALUE : Integer.MAX_VALUE;
                case 3:
                case 4:
                    return least;
                case 5:
                case 6:
                    return most;
                default:
                    return least + below(most - least + 1);
            }
        }

        int of(int... some) {
            return some[below(some.length)];
        }
    }

    private static final int[] MOST_TOWN = {99999, 99999, 6, 1};
    private static final int[] MOST_HOLE = {5, 5, 99, 2, 999, 1};

    /** Arguments of a call, most of them such as it takes. */
    private static long[] arguments(Dice d, int call, int holes) {
        int hole = d.around(0, Math.max(0, holes - 1));
        int sheet = d.around(0, 3);
        switch (call) {
            case 0:
                int what = d.around(0, 3);
                int most = what >= 0 && what < 4 ? MOST_TOWN[what] : 9;
                return row(what, d.below(3) == 0 || most < 10 ? d.around(0, most) : d.below(300));
            case 1:
                int sort = d.around(0, 1);
                return row(d.around(0, 5), sort, d.around(0, sort == 0 ? 99 : 1));
            case 2:
                return row(d.around(0, 5), d.around(0, 3));
            case 3:
                return row(d.around(0, 5), d.around(0, 5));
            case 4:
                return row(hole, d.around(0, 9));
            case 5:
                int w = d.around(1, 5);
                int top = w >= 0 && w < 6 ? MOST_HOLE[w] : 9;
                return row(hole, w, d.below(2) == 0 ? d.around(0, top) : d.below(Math.min(top, 45) + 1));
            case 6:
            case 7:
                return row(hole, d.around(0, 5));
            case 8:
                return row(hole, d.around(0, 1));
            case 10:
                return row(d.below(3) == 0 ? d.around(1, 60) : 1 + d.below(6));
            case 11:
                return row(d.around(0, 7));
            case 12:
                return row(hole, d.around(0, 104), d.around(0, 1));
            case 13:
            case 14:
            case 23:
                return row(d.around(0, 104));
            case 15:
            case 16:
                return row(hole);
            case 17:
                return row(d.around(1, 104));
            case 18:
                return row(d.around(1, 52));
            case 19:
                return row(d.around(1, 52), d.below(2) == 0 ? d.around(0, 999) : d.below(200));
            case 20:
                return row(d.around(1, 20), d.below(2) == 0 ? d.around(0, 999) : d.below(200));
            case 21:
                return row(hole, d.around(1, 52));
            case 22:
                return row(d.around(1, 26));
            case 24:
                return row((d.below(65536) << 16) + d.below(65536), d.around(1, 4));
            case 27:
                return row(sheet, d.below(30) == 0 ? d.of(1, 32, -8) : d.of(0, 8, 8, 16, 16, 64, 64), d.around(0, d.of(8, 40)));
            case 28:
                return row(sheet, d.around(0, d.of(5, 39)), d.below(2) == 0 ? d.below(110) : number(d));
            case 29:
                return row(sheet, d.around(0, 8), d.below(2) == 0 ? sheet : d.around(0, 3), d.around(0, 8), d.around(0, 6));
            case 30:
                return row(sheet);
            case 31:
            case 32:
                return row(sheet, hole);
            case 36:
                return row(d.around(0, 3));
            case 37:
                return row(d.around(-1, 6));
            default:
                return row();
        }
    }

    private static long number(Dice d) {
        return ((long) d.below(Integer.MAX_VALUE) << 33) + ((long) d.below(Integer.MAX_VALUE) << 3) + d.below(8);
    }

    private static long[] row(long... some) {
        return Arrays.copyOf(some, 5);
    }

    private static final String[] WORDS = {"hole", "bath", "crack", "joint", "duck", "seam", "in", "size", "cold", "hot",
        "rung", "street", "traffic", "let", "budget", "men", ";", "0", "5", "6", "7", "99", "100", "9999", "10000",
        "99999999999", "x", "?", "\t", "H", "\u00e9", "holes"};

    /** A text that mostly is one; now and then a token in it is another. */
    private static String textFor(Dice d) {
        StringBuilder b = new StringBuilder();
        int items = 1 + d.below(4);
        for (int i = 0; i < items; i++) {
            b.append(i == 0 ? "" : ";");
            switch (d.below(5)) {
                case 0:
                    b.append("street ").append(d.below(6)).append(d.below(2) == 0 ? " traffic " + d.below(100) : "")
                        .append(d.below(2) == 0 ? " let" : "");
                    break;
                case 1:
                    b.append("budget ").append(d.below(2) == 0 ? d.below(100) : d.below(10000));
                    break;
                case 2:
                    b.append("men ").append(d.below(7));
                    break;
                default:
                    b.append(NAMES.get(d.below(6))).append(d.below(2) == 0 ? " in " + d.below(6) : "")
                        .append(d.below(2) == 0 ? " size " + d.below(100) : "")
                        .append(new String[] {"", " cold", " hot"}[d.below(3)]).append(d.below(2) == 0 ? " rung" : "");
            }
        }
        if (d.below(2) == 0) {
            return b.toString();
        }
        List<String> tokens = new ArrayList<>(Arrays.asList(b.toString().replace(";", " ; ").split(" ")));
        int at = d.below(tokens.size());
        switch (d.below(3)) {
            case 0:
                tokens.set(at, WORDS[d.below(WORDS.length)]);
                break;
            case 1:
                tokens.add(at, WORDS[d.below(WORDS.length)]);
                break;
            default:
                tokens.remove(at);
        }
        return String.join(d.below(8) == 0 ? "" : d.below(4) == 0 ? "  " : " ", tokens);
    }

    private static final int[] WEIGHTS = {6, 6, 4, 8, 10, 10, 3, 4, 5, 5, 12, 8, 6, 6, 6, 6, 6, 4, 4, 4, 1, 4, 2, 6, 4, 1,
        3, 5, 8, 5, 3, 4, 4, 2, 2, 1, 4, 3};

    private static int pick(Dice d) {
        int all = Arrays.stream(WEIGHTS).sum();
        int left = d.below(all);
        int call = 0;
        while (left >= WEIGHTS[call]) {
            left -= WEIGHTS[call];
            call++;
        }
        return call;
    }

    private static boolean agrees(HoleFills x, ModelTest m, int run, int call, long[] a) {
        long want = m.due(call, a);
        long got = ask(x, call, a);
        if (got == want) {
            return true;
        }
        System.out.println("run " + run + ": " + CALL_NAMES[call] + Arrays.toString(a) + " answered " + got + ", due is "
            + want);
        return false;
    }

    private static boolean oneRun(int run) {
        Dice d = new Dice(run);
        HoleFills x = new HoleFills();
        ModelTest m = new ModelTest();
        int start = d.below(9);
        for (int i = 0; i < start; i++) {
            if (!agrees(x, m, run, 3, row(d.below(6), d.below(6)))) {
                return false;
            }
        }
        for (int i = start; i < CALLS; i++) {
            int call = pick(d);
            if (call == 26) {
                for (char c : textFor(d).toCharArray()) {
                    if (!agrees(x, m, run, 24, row(c, 1))) {
                        return false;
                    }
                    i++;
                }
            }
            if (!agrees(x, m, run, call, arguments(d, call, m.t.holes.size()))) {
                return false;
            }
        }
        return true;
    }

    public static void main(String[] args) {
        int wrong = 0;
        for (int run = 1; run <= RUNS; run++) {
            if (!oneRun(run)) {
                wrong++;
            }
        }
        System.out.println(RUNS + " runs, " + wrong + " wrong");
        if (wrong != 0) {
            System.exit(1);
        }
    }
}
