/**
 * A town's holes in the road: how they grow, are filled, break again, and what is best done.
 * The promises it keeps are numbered in the document, DOC.md.
 */
public final class HoleFills {
    private static final int BEYOND = -1000000001;
    private static final int FULL = -1000000002;
    private static final int KIND = -1000000003;
    private static final int NONE = -1000000004;
    private static final int STATE = -1000000005;
    private static final int MISSING = -1000000006;
    private static final int SIZE = -1000000007;
    private static final int FINDINGS = 7;

    private static final int STREETS = 6;
    private static final int KINDS = 6;
    private static final int FILLS = 3;
    private static final int COLD_FILL = 1;
    private static final int HOT_FILL = 2;
    private static final int FIRST_SIZE = 5;
    private static final int MOST_HOLES = 8;
    private static final int MOST_SIZE = 99;
    private static final int MOST_TRAFFIC = 99;
    private static final int MOST_MEN = 6;
    private static final int MOST_AGE = 999;
    private static final int MOST_SPENT = 9999999;
    private static final int MOST_WEEK = 9999;
    private static final int MOST_ON = 104;
    private static final int MOST_TRIED_BUDGET = 999;
    private static final int MOST_TOLD_BUDGET = 9999;
    private static final int MOST_BYTES = 120;
    private static final int SHEETS = 4;
    private static final int MOST_NUMBERS = 40;

    /** The most that town() may set: budget, yearly, men, hot. */
    private static final int[] MOST_OF_TOWN = {99999, 99999, 6, 1};
    /** The most that street() may set: traffic, let. */
    private static final int[] MOST_OF_STREET = {99, 1};
    /** The most that set() may set: (kind,) street, size, fill, age, rung. */
    private static final int[] MOST_OF_HOLE = {5, 5, 99, 2, 999, 1};

    private final Town here = new Town();
    private final Town trial = new Town();
    private final Town kept = new Town();
    private boolean isKept = false;
    private final Tape tape = new Tape();
    private final Sheet[] sheets = new Sheet[SHEETS];
    private final int[] findings = new int[FINDINGS];

    public HoleFills() {
        for (int s = 0; s < SHEETS; s++) {
            sheets[s] = new Sheet();
        }
    }

    // ---- the town

    public int town(int what, int v) {
        if (!within(what, 0, 3) || !within(v, 0, MOST_OF_TOWN[what])) {
            return found(BEYOND);
        }
        return here.changeFigure(what, v);
    }

    public int street(int street, int what, int v) {
        if (!isStreet(street) || !within(what, 0, 1) || !within(v, 0, MOST_OF_STREET[what])) {
            return found(BEYOND);
        }
        return put(what == 0 ? here.traffic : here.letGo, street, v);
    }

    public int streetOf(int street, int what) {
        if (!isStreet(street) || !within(what, 0, 3)) {
            return found(BEYOND);
        }
        switch (what) {
            case 0:
                return here.traffic[street];
            case 1:
                return here.letGo[street];
            case 2:
                return here.holesIn(street);
            default:
                return here.holesIn(street) & here.openHoles();
        }
    }

    // ---- holes

    public int hole(int kind, int street) {
        if (!isKind(kind) || !isStreet(street)) {
            return found(BEYOND);
        }
        if (here.isFull()) {
            return found(FULL);
        }
        return here.addHole(kind, street);
    }

    public int of(int hole, int what) {
        if (!here.has(hole) || !within(what, 0, 9)) {
            return found(BEYOND);
        }
        switch (what) {
            case 6:
                return here.growth(hole);
            case 7:
                return here.price(hole, 0);
            case 8:
                return Kinds.holds(here.kinds[hole], COLD_FILL);
            case 9:
                return Kinds.holds(here.kinds[hole], HOT_FILL);
            default:
                return here.rowOfHoles(what)[hole];
        }
    }

    public int set(int hole, int what, int v) {
        if (!here.has(hole) || !within(what, 1, 5) || !within(v, 0, MOST_OF_HOLE[what])) {
            return found(BEYOND);
        }
        return put(here.rowOfHoles(what), hole, v);
    }

    public int turn(int hole, int kind) {
        if (!here.has(hole) || !isKind(kind)) {
            return found(BEYOND);
        }
        return put(here.kinds, hole, kind);
    }

    public int as(int hole, int kind) {
        if (!here.has(hole) || !isKind(kind)) {
            return found(BEYOND);
        }
        if (!Kinds.isUnder(here.kinds[hole], kind)) {
            return found(KIND);
        }
        return here.sizes[hole];
    }

    public int fill(int hole, int hot) {
        if (!here.has(hole) || !within(hot, 0, 1)) {
            return found(BEYOND);
        }
        int price = here.price(hole, hot);
        if (here.fills[hole] != 0 || price > here.budget) {
            return found(STATE);
        }
        here.fillNow(hole, hot);
        return price;
    }

    public int next() {
        int first = here.firstToFill();
        return first < 0 ? found(NONE) : first;
    }

    // ---- weeks

    public int weeks(int n) {
        if (!within(n, 1, 60)) {
            return found(BEYOND);
        }
        if (here.week + n > MOST_WEEK) {
            return found(STATE);
        }
        here.goWeeks(n);
        return here.openHoles();
    }

    public int now(int what) {
        switch (what) {
            case 0:
                return here.week;
            case 1:
                return here.budget;
            case 2:
                return here.yearly;
            case 3:
                return here.men;
            case 4:
                return here.hot;
            case 5:
                return here.spent;
            case 6:
                return Kinds.isFrost(here.weekOfYear()) ? 1 : 0;
            case 7:
                return here.openSize();
            default:
                return found(BEYOND);
        }
    }

    public int on(int hole, int n, int what) {
        if (!here.has(hole) || !within(n, 0, MOST_ON) || !within(what, 0, 1)) {
            return found(BEYOND);
        }
        Town town = asItIs().goWeeks(n);
        return what == 0 ? town.sizes[hole] : town.fills[hole];
    }

    public int worse(int n) {
        if (!within(n, 0, MOST_ON)) {
            return found(BEYOND);
        }
        return asItIs().goWeeks(n).openSize();
    }

    public int cost(int n) {
        if (!within(n, 0, MOST_ON)) {
            return found(BEYOND);
        }
        Town town = asItIs().goWeeks(n);
        return town.spent - here.spent;
    }

    public int filled(int hole) {
        if (!here.has(hole)) {
            return found(BEYOND);
        }
        int n = weeksUntil(hole, true);
        return n < 0 ? found(NONE) : n;
    }

    public int breaks(int hole) {
        if (!here.has(hole)) {
            return found(BEYOND);
        }
        int n = weeksUntil(hole, false);
        return n < 0 ? found(NONE) : n;
    }

    // ---- what is best

    public int how(int n) {
        if (!within(n, 1, MOST_ON)) {
            return found(BEYOND);
        }
        Town town = asItIs();
        town.hot = 0;
        int withCold = town.goWeeks(n).openSize();
        town = asItIs();
        town.hot = 1;
        return town.goWeeks(n).openSize() < withCold ? 1 : 0;
    }

    public int ring(int n) {
        if (!within(n, 1, 52)) {
            return found(BEYOND);
        }
        int best = -1;
        int least = 0;
        for (int h = 0; h < here.holes; h++) {
            if (here.rungs[h] != 0) {
                continue;
            }
            Town town = asItIs();
            town.rungs[h] = 1;
            int left = town.goWeeks(n).openSize();
            if (best < 0 || left < least) {
                best = h;
                least = left;
            }
        }
        return best < 0 ? found(NONE) : best;
    }

    public int men(int n, int v) {
        if (!within(n, 1, 52) || !within(v, 0, 999)) {
            return found(BEYOND);
        }
        for (int men = 0; men <= MOST_MEN; men++) {
            Town town = asItIs();
            town.men = men;
            if (town.goWeeks(n).openSize() <= v) {
                return men;
            }
        }
        return found(NONE);
    }

    public int budget(int n, int v) {
        if (!within(n, 1, 20) || !within(v, 0, 999)) {
            return found(BEYOND);
        }
        int step = 1;
        for (int budget = 0; budget <= MOST_TRIED_BUDGET; budget += step) {
            Town town = asItIs();
            town.budget = budget;
            if (town.goWeeks(n).openSize() <= v) {
                return budget;
            }
            // With less than it lacked anywhere, all weeks would go just the same again.
            step = Math.max(1, town.lacked);
        }
        return found(NONE);
    }

    public int kind(int hole, int n) {
        if (!here.has(hole) || !within(n, 1, 52)) {
            return found(BEYOND);
        }
        int best = 0;
        int least = MOST_SIZE + 1;
        for (int k = 0; k < KINDS; k++) {
            Town town = asItIs();
            town.kinds[hole] = k;
            town.goWeeks(n);
            if (town.sizes[hole] < least) {
                best = k;
                least = town.sizes[hole];
            }
        }
        return best;
    }

    public int let(int n) {
        if (!within(n, 1, 26)) {
            return found(BEYOND);
        }
        int best = 0;
        int least = MOST_HOLES * MOST_SIZE + 1;
        for (int set = 0; set < 1 << STREETS; set++) {
            Town town = asItIs();
            town.letGoAll(set);
            int left = town.goWeeks(n).openSize();
            if (left < least) {
                best = set;
                least = left;
            }
        }
        return best;
    }

    public int worst(int n) {
        if (!within(n, 0, MOST_ON)) {
            return found(BEYOND);
        }
        Town town = asItIs().goWeeks(n);
        int worst = 0;
        for (int s = 1; s < STREETS; s++) {
            if (town.openSizeOf(s) > town.openSizeOf(worst)) {
                worst = s;
            }
        }
        return worst;
    }

    // ---- the text

    public int feed(int bytes, int n) {
        if (!within(n, 1, 4)) {
            return found(BEYOND);
        }
        if (tape.length + n > MOST_BYTES) {
            return found(FULL);
        }
        for (int i = n - 1; i >= 0; i--) {
            tape.add((bytes >> (8 * i)) & 255);
        }
        return tape.length;
    }

    public int wipe() {
        return tape.clear();
    }

    public int text() {
        Town town = asItIs();
        int items = TownText.readAll(tape, town);
        tape.clear();
        if (items > 0) {
            here.become(town);
        }
        return items;
    }

    // ---- sheets

    public int sheet(int s, int bits, int n) {
        Sheet sheet = sheetAt(s);
        if (sheet == null || (bits != 0 && bits != 8 && bits != 16 && bits != 64)) {
            return found(BEYOND);
        }
        if (n < 0) {
            return found(SIZE);
        }
        if (n > MOST_NUMBERS) {
            return found(BEYOND);
        }
        sheet.begin(bits, bits == 0 ? 0 : n);
        return sheet.length;
    }

    public long write(int s, int i, long v) {
        Sheet sheet = sheetAt(s);
        if (sheet == null) {
            return found(BEYOND);
        }
        if (sheet.isMissing()) {
            return found(MISSING);
        }
        if (!within(i, 0, sheet.length - 1)) {
            return found(BEYOND);
        }
        long was = sheet.numbers[i];
        sheet.put(i, v);
        return was;
    }

    public int copy(int s, int from, int t, int to, int n) {
        Sheet source = sheetAt(s);
        Sheet target = sheetAt(t);
        if (source == null || target == null) {
            return found(BEYOND);
        }
        if (source.isMissing() || target.isMissing()) {
            return found(MISSING);
        }
        if (source.bits != target.bits) {
            return found(KIND);
        }
        if (!source.hasSpan(from, n) || !target.hasSpan(to, n)) {
            return found(BEYOND);
        }
        System.arraycopy(source.numbers, from, target.numbers, to, n);
        return n;
    }

    public int lays(int s) {
        Sheet sheet = sheetAt(s);
        if (sheet == null) {
            return found(BEYOND);
        }
        if (sheet.isMissing()) {
            return found(MISSING);
        }
        int came = 0;
        for (int i = 0; i < sheet.length && i < STREETS; i++) {
            long number = sheet.numbers[i];
            if (number >= 0 && number <= MOST_TRAFFIC) {
                here.traffic[i] = (int) number;
                came++;
            }
        }
        return came;
    }

    public int book(int s, int hole) {
        Sheet sheet = sheetAt(s);
        if (sheet == null) {
            return found(BEYOND);
        }
        if (sheet.isMissing()) {
            return found(MISSING);
        }
        if (!here.has(hole)) {
            return found(BEYOND);
        }
        Town town = asItIs();
        for (int i = 0; i < sheet.length; i++) {
            sheet.put(i, town.sizes[hole]);
            town.goWeek();
        }
        return sheet.length;
    }

    public int read(int s, int hole) {
        Sheet sheet = sheetAt(s);
        if (sheet == null) {
            return found(BEYOND);
        }
        if (sheet.isMissing()) {
            return found(MISSING);
        }
        if (!here.has(hole)) {
            return found(BEYOND);
        }
        int pairs = 0;
        for (int k = 0; k < KINDS; k++) {
            for (int f = 0; f < FILLS; f++) {
                Town town = asItIs();
                town.kinds[hole] = k;
                town.fills[hole] = f;
                town.ages[hole] = 0;
                if (growsAs(town, hole, sheet)) {
                    pairs++;
                }
            }
        }
        return pairs;
    }

    // ---- images

    public int image() {
        kept.become(here);
        isKept = true;
        return 1;
    }

    public int undo() {
        if (!isKept) {
            return found(NONE);
        }
        here.become(kept);
        return here.holes;
    }

    public int tear() {
        int was = isKept ? 1 : 0;
        isKept = false;
        return was;
    }

    public int count(int what) {
        switch (what) {
            case 0:
                return here.holes;
            case 1:
                return tape.length;
            case 2:
                return here.holes - Integer.bitCount(here.openHoles());
            case 3:
                return here.holesRungFor();
            default:
                return found(BEYOND);
        }
    }

    public int status(int which) {
        if (!within(which, -1, FINDINGS - 1)) {
            return found(BEYOND);
        }
        if (which >= 0) {
            return findings[which];
        }
        int all = 0;
        for (int i = 0; i < FINDINGS; i++) {
            all += findings[i];
        }
        return all;
    }

    // ---- helpers of the calls

    private static boolean within(int v, int least, int most) {
        return v >= least && v <= most;
    }

    private static boolean isStreet(int street) {
        return street >= 0 && street < STREETS;
    }

    private static boolean isKind(int kind) {
        return kind >= 0 && kind < KINDS;
    }

    /** Counts a finding, and answers it. */
    private int found(int finding) {
        int which = BEYOND - finding;
        if (which >= 0 && which < FINDINGS) {
            findings[which]++;
        }
        return finding;
    }

    /** Puts a number into a row: what stood there. */
    private static int put(int[] row, int i, int v) {
        int was = row[i];
        row[i] = v;
        return was;
    }

    /** The sheet, or null if there is no such one. */
    private Sheet sheetAt(int s) {
        return s >= 0 && s < SHEETS ? sheets[s] : null;
    }

    /** A town to try things on: what there is now. */
    private Town asItIs() {
        trial.become(here);
        return trial;
    }

    /** In how many weeks a hole first has a fill, or has none; -1 if it never comes to that. */
    private int weeksUntil(int hole, boolean withFill) {
        Town town = asItIs();
        for (int n = 0; n <= MOST_ON; n++) {
            if ((town.fills[hole] != 0) == withFill) {
                return n;
            }
            town.goWeek();
        }
        return -1;
    }

    /** Whether a hole of a trial town has a sheet's sizes, week by week. */
    private static boolean growsAs(Town town, int hole, Sheet sheet) {
        for (int i = 0; i < sheet.length; i++) {
            if (sheet.numbers[i] != town.sizes[hole]) {
                return false;
            }
            town.goWeek();
        }
        return true;
    }

    /** What the kinds of holes have of their own. */
    private static final class Kinds {
        static final int HOLE = 0;
        static final int BATH = 1;
        static final int CRACK = 2;
        static final int JOINT = 3;
        static final int DUCK = 4;
        static final int SEAM = 5;

        static boolean isFrost(int weekOfYear) {
            return weekOfYear < 10 || weekOfYear >= 46;
        }

        static int growth(int kind, int size, int weekOfYear, int traffic) {
            boolean frost = isFrost(weekOfYear);
            int asHole = 1 + traffic / 10 + (frost ? 2 : 0);
            int asBath = asHole + size / 20;
            switch (kind) {
                case BATH:
                    return asBath;
                case CRACK:
                    return 1;
                case JOINT:
                    return asHole + (weekOfYear % 9 == 0 ? 3 : 0);
                case DUCK:
                    return Math.max(0, asBath - 1);
                case SEAM:
                    return frost ? 2 : 1;
                default:
                    return asHole;
            }
        }

        /** The weeks that a fill holds. */
        static int holds(int kind, int fill) {
            int asHole = fill == HOT_FILL ? 40 : 3;
            switch (kind) {
                case BATH:
                case DUCK:
                    return asHole - 1;
                case CRACK:
                    return asHole + 5;
                case JOINT:
                    return asHole / 2;
                case SEAM:
                    return (asHole + 5) * 2;
                default:
                    return asHole;
            }
        }

        static int coldPrice(int kind, int size) {
            int asHole = 5 + size / 10;
            switch (kind) {
                case BATH:
                    return asHole + 3;
                case CRACK:
                    return 2;
                case DUCK:
                    return asHole + 1;
                case SEAM:
                    return 3;
                default:
                    return asHole;
            }
        }

        /** Whether a kind is another one, or stands under it. */
        static boolean isUnder(int kind, int above) {
            switch (above) {
                case HOLE:
                    return true;
                case BATH:
                    return kind == BATH || kind == DUCK;
                case CRACK:
                    return kind == CRACK || kind == SEAM;
                default:
                    return kind == above;
            }
        }

        static String nameOf(int kind) {
            switch (kind) {
                case HOLE:
                    return "hole";
                case BATH:
                    return "bath";
                case CRACK:
                    return "crack";
                case JOINT:
                    return "joint";
                case DUCK:
                    return "duck";
                default:
                    return "seam";
            }
        }
    }

    /** All that the document's first section tells, but for the tape. */
    private static final class Town {
        int week = 0;
        int budget = 500;
        int yearly = 500;
        int men = 1;
        int hot = 0;
        int spent = 0;
        /** The least by which a hole that the men would have filled was too dear; more than is tried if none was. */
        int lacked = MOST_TRIED_BUDGET + 1;
        final int[] traffic = {20, 20, 20, 20, 20, 20};
        final int[] letGo = new int[STREETS];
        int holes = 0;
        final int[] kinds = new int[MOST_HOLES];
        final int[] streets = new int[MOST_HOLES];
        final int[] sizes = new int[MOST_HOLES];
        final int[] fills = new int[MOST_HOLES];
        final int[] ages = new int[MOST_HOLES];
        final int[] rungs = new int[MOST_HOLES];

        void become(Town other) {
            week = other.week;
            budget = other.budget;
            yearly = other.yearly;
            men = other.men;
            hot = other.hot;
            spent = other.spent;
            lacked = MOST_TRIED_BUDGET + 1;
            holes = other.holes;
            System.arraycopy(other.traffic, 0, traffic, 0, STREETS);
            System.arraycopy(other.letGo, 0, letGo, 0, STREETS);
            System.arraycopy(other.kinds, 0, kinds, 0, MOST_HOLES);
            System.arraycopy(other.streets, 0, streets, 0, MOST_HOLES);
            System.arraycopy(other.sizes, 0, sizes, 0, MOST_HOLES);
            System.arraycopy(other.fills, 0, fills, 0, MOST_HOLES);
            System.arraycopy(other.ages, 0, ages, 0, MOST_HOLES);
            System.arraycopy(other.rungs, 0, rungs, 0, MOST_HOLES);
        }

        /** Budget (0), yearly (1), men (2), hot (3) becomes v: what it was. */
        int changeFigure(int what, int v) {
            int was;
            switch (what) {
                case 0:
                    was = budget;
                    budget = v;
                    return was;
                case 1:
                    was = yearly;
                    yearly = v;
                    return was;
                case 2:
                    was = men;
                    men = v;
                    return was;
                default:
                    was = hot;
                    hot = v;
                    return was;
            }
        }

        /** Lets go the streets of a set, and no others. */
        void letGoAll(int set) {
            for (int s = 0; s < STREETS; s++) {
                letGo[s] = (set >> s) & 1;
            }
        }

        boolean has(int hole) {
            return hole >= 0 && hole < holes;
        }

        boolean isFull() {
            return holes >= MOST_HOLES;
        }

        /** A new hole, in a town that is not full: its number. */
        int addHole(int kind, int street) {
            int hole = holes;
            kinds[hole] = kind;
            streets[hole] = street;
            sizes[hole] = FIRST_SIZE;
            fills[hole] = 0;
            ages[hole] = 0;
            rungs[hole] = 0;
            holes++;
            return hole;
        }

        /** Kinds (0), streets (1), sizes (2), fills (3), ages (4), rungs (5). */
        int[] rowOfHoles(int what) {
            switch (what) {
                case 0:
                    return kinds;
                case 1:
                    return streets;
                case 2:
                    return sizes;
                case 3:
                    return fills;
                case 4:
                    return ages;
                default:
                    return rungs;
            }
        }

        int weekOfYear() {
            return week % 52;
        }

        int growth(int hole) {
            int street = streets[hole];
            int t = isStreet(street) ? traffic[street] : 0;
            return Kinds.growth(kinds[hole], sizes[hole], weekOfYear(), t);
        }

        /** What it costs to fill a hole cold (0) or hot (1). */
        int price(int hole, int how) {
            int cold = Kinds.coldPrice(kinds[hole], sizes[hole]);
            return how == 0 ? cold : 11 * cold;
        }

        private boolean isLetGo(int hole) {
            int street = streets[hole];
            return isStreet(street) && letGo[street] != 0;
        }

        /** Whether a hole comes first, ahead of one of lesser number. */
        private boolean comesAheadOf(int hole, int lesser) {
            boolean duck = kinds[hole] == Kinds.DUCK;
            if (duck != (kinds[lesser] == Kinds.DUCK)) {
                return duck;
            }
            if (rungs[hole] != rungs[lesser]) {
                return rungs[hole] > rungs[lesser];
            }
            return sizes[hole] > sizes[lesser];
        }

        /** The hole that the men would fill next, or -1. */
        int firstToFill() {
            int first = -1;
            for (int h = 0; h < holes; h++) {
                if (fills[h] != 0 || isLetGo(h)) {
                    continue;
                }
                int price = price(h, hot);
                if (price > budget) {
                    lacked = Math.min(lacked, price - budget);
                } else if (first < 0 || comesAheadOf(h, first)) {
                    first = h;
                }
            }
            return first;
        }

        void fillNow(int hole, int how) {
            int price = price(hole, how);
            budget -= price;
            spent = Math.min(spent + price, MOST_SPENT);
            fills[hole] = how == 0 ? COLD_FILL : HOT_FILL;
            ages[hole] = 0;
            rungs[hole] = 0;
        }

        private void sendMen() {
            for (int m = 0; m < men; m++) {
                int first = firstToFill();
                if (first < 0) {
                    break;
                }
                fillNow(first, hot);
            }
        }

        private void wear(int hole) {
            if (fills[hole] == 0) {
                sizes[hole] = Math.min(sizes[hole] + growth(hole), MOST_SIZE);
                return;
            }
            ages[hole] = Math.min(ages[hole] + 1, MOST_AGE);
            if (ages[hole] > Kinds.holds(kinds[hole], fills[hole])) {
                fills[hole] = 0;
            }
        }

        void goWeek() {
            sendMen();
            for (int h = 0; h < holes; h++) {
                wear(h);
            }
            week++;
            if (weekOfYear() == 12) {
                budget = yearly;
            }
        }

        /** Lets n weeks go: the town as it is then. */
        Town goWeeks(int n) {
            for (int i = 0; i < n; i++) {
                goWeek();
            }
            return this;
        }

        /** The holes in a street, as a set. */
        int holesIn(int street) {
            int set = 0;
            for (int h = 0; h < holes; h++) {
                if (streets[h] == street) {
                    set |= 1 << h;
                }
            }
            return set;
        }

        /** The holes without a fill, as a set. */
        int openHoles() {
            int set = 0;
            for (int h = 0; h < holes; h++) {
                if (fills[h] == 0) {
                    set |= 1 << h;
                }
            }
            return set;
        }

        int holesRungFor() {
            int rung = 0;
            for (int h = 0; h < holes; h++) {
                rung += rungs[h];
            }
            return rung;
        }

        /** The sizes of all holes without a fill together: how bad the town is. */
        int openSize() {
            int sum = 0;
            for (int h = 0; h < holes; h++) {
                if (fills[h] == 0) {
                    sum += sizes[h];
                }
            }
            return sum;
        }

        int openSizeOf(int street) {
            int sum = 0;
            for (int h = 0; h < holes; h++) {
                if (fills[h] == 0 && streets[h] == street) {
                    sum += sizes[h];
                }
            }
            return sum;
        }
    }

    /** The bytes of a text, and the token of them that is being looked at. */
    private static final class Tape {
        static final int END = 0;
        static final int WORD = 1;
        static final int NUMBER = 2;
        static final int SIGN = 3;
        static final int OTHER = 4;
        /** From here on, more than any number that a text may have. */
        static final int TOO_MUCH = 10000;
        static final int FAULT = -1;

        final int[] bytes = new int[MOST_BYTES];
        int length = 0;
        int token = END;
        int start = 0;
        int end = 0;
        int value = 0;

        void add(int b) {
            if (length < MOST_BYTES) {
                bytes[length] = b;
                length++;
            }
        }

        int clear() {
            int had = length;
            length = 0;
            return had;
        }

        void begin() {
            end = 0;
            advance();
        }

        void advance() {
            start = endOfRun(end, ' ', ' ');
            end = start;
            token = END;
            if (start >= length) {
                return;
            }
            int b = bytes[start];
            if (b >= 'a' && b <= 'z') {
                token = WORD;
                end = endOfRun(start, 'a', 'z');
            } else if (b >= '0' && b <= '9') {
                token = NUMBER;
                end = endOfRun(start, '0', '9');
                value = valueOfToken();
            } else {
                token = b == ';' ? SIGN : OTHER;
                end = start + 1;
            }
        }

        /** The first place from one on whose byte isn't between two others. */
        private int endOfRun(int from, int least, int most) {
            int at = from;
            while (at < length && bytes[at] >= least && bytes[at] <= most) {
                at++;
            }
            return at;
        }

        private int valueOfToken() {
            int number = 0;
            for (int at = start; at < end; at++) {
                // Goes no further, since a tape has room for more digits than an int.
                if (number < TOO_MUCH) {
                    number = number * 10 + bytes[at] - '0';
                }
            }
            return number;
        }

        boolean isAt(String word) {
            if (token != WORD || end - start != word.length()) {
                return false;
            }
            for (int i = 0; i < word.length(); i++) {
                if (bytes[start + i] != word.charAt(i)) {
                    return false;
                }
            }
            return true;
        }

        /** Goes past a word, if it stands here: whether it did. */
        boolean pass(String word) {
            boolean stands = isAt(word);
            if (stands) {
                advance();
            }
            return stands;
        }

        /** Goes past a number of most at most: the number, or FAULT if none such stands here. */
        int passNumber(int most) {
            if (token != NUMBER || value > most) {
                return FAULT;
            }
            int number = value;
            advance();
            return number;
        }
    }

    /** The text of a town. A reading that fails leaves the tape at the fault. */
    private static final class TownText {
        /** Reads all items into a town: how many, or -1 less the fault's place. */
        static int readAll(Tape tape, Town town) {
            tape.begin();
            for (int items = 1; items <= MOST_BYTES; items++) {
                if (!readItem(tape, town)) {
                    break;
                }
                if (tape.token == Tape.END) {
                    return items;
                }
                if (tape.token != Tape.SIGN) {
                    break;
                }
                tape.advance();
            }
            return -1 - tape.start;
        }

        private static boolean readItem(Tape tape, Town town) {
            for (int k = 0; k < KINDS; k++) {
                if (tape.isAt(Kinds.nameOf(k))) {
                    return readHole(tape, town, k);
                }
            }
            if (tape.pass("street")) {
                return readStreet(tape, town);
            }
            if (tape.pass("budget")) {
                town.budget = tape.passNumber(MOST_TOLD_BUDGET);
                return town.budget != Tape.FAULT;
            }
            if (tape.pass("men")) {
                town.men = tape.passNumber(MOST_MEN);
                return town.men != Tape.FAULT;
            }
            return false;
        }

        private static boolean readHole(Tape tape, Town town, int kind) {
            if (town.isFull()) {
                return false;
            }
            tape.advance();
            int street = tape.pass("in") ? tape.passNumber(STREETS - 1) : 0;
            if (street == Tape.FAULT) {
                return false;
            }
            int size = tape.pass("size") ? tape.passNumber(MOST_SIZE) : FIRST_SIZE;
            if (size == Tape.FAULT) {
                return false;
            }
            int hole = town.addHole(kind, street);
            town.sizes[hole] = size;
            if (tape.pass("cold")) {
                town.fills[hole] = COLD_FILL;
            } else if (tape.pass("hot")) {
                town.fills[hole] = HOT_FILL;
            }
            town.rungs[hole] = tape.pass("rung") ? 1 : 0;
            return true;
        }

        private static boolean readStreet(Tape tape, Town town) {
            int street = tape.passNumber(STREETS - 1);
            if (!isStreet(street)) {
                return false;
            }
            int traffic = tape.pass("traffic") ? tape.passNumber(MOST_TRAFFIC) : town.traffic[street];
            if (traffic == Tape.FAULT) {
                return false;
            }
            town.traffic[street] = traffic;
            town.letGo[street] = tape.pass("let") ? 1 : 0;
            return true;
        }
    }

    /** A row of numbers of 8, 16 or 64 bits; of 0 bits while it is missing. */
    private static final class Sheet {
        int bits = 0;
        int length = 0;
        final long[] numbers = new long[MOST_NUMBERS];

        boolean isMissing() {
            return bits == 0;
        }

        void begin(int newBits, int newLength) {
            bits = newBits;
            length = newLength;
            for (int i = 0; i < MOST_NUMBERS; i++) {
                numbers[i] = 0;
            }
        }

        void put(int i, long v) {
            if (i < 0 || i >= length) {
                return;
            }
            if (bits == 8) {
                numbers[i] = (byte) v;
            } else if (bits == 16) {
                numbers[i] = (short) v;
            } else {
                numbers[i] = v;
            }
        }

        /** Whether n numbers stand from a place on. */
        boolean hasSpan(int from, int n) {
            return from >= 0 && n >= 0 && n <= length && from <= length - n;
        }
    }
}
