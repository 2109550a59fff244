/** What the tests share: answers are asked, compared with those that are due, and counted. */
abstract class Check {
    static final int BEYOND = -1000000001;
    static final int FULL = -1000000002;
    static final int KIND = -1000000003;
    static final int NONE = -1000000004;
    static final int STATE = -1000000005;
    static final int MISSING = -1000000006;
    static final int SIZE = -1000000007;

    static final int HOLE = 0;
    static final int BATH = 1;
    static final int CRACK = 2;
    static final int JOINT = 3;
    static final int DUCK = 4;
    static final int SEAM = 5;

    static final int[] HOLDS_COLD = {3, 2, 8, 1, 2, 16};
    static final int[] HOLDS_HOT = {40, 39, 45, 20, 39, 90};

    private static int asked = 0;
    private static int wrong = 0;

    static void due(String what, long got, long want) {
        asked++;
        if (got != want) {
            wrong++;
            System.out.println(what + " answered " + got + ", due is " + want);
        }
    }

    static void due(String what, String got, String want) {
        asked++;
        if (!got.equals(want)) {
            wrong++;
            System.out.println(what + " shows\n  " + got + ", due is\n  " + want);
        }
    }

    /** Says how it went, and fails if an answer was wrong. */
    static void end() {
        System.out.println(asked + " answers asked, " + wrong + " wrong");
        if (wrong != 0) {
            System.exit(1);
        }
    }

    /** A town in a week, without men or holes. */
    static HoleFills idleAt(int week) {
        HoleFills x = new HoleFills();
        x.town(2, 0);
        for (int left = week; left > 0; left -= 60) {
            x.weeks(Math.min(60, left));
        }
        return x;
    }

    /** Puts a text's bytes on the tape, four at a time, since an object has 512 calls. */
    static void feed(HoleFills x, String text) {
        for (int at = 0; at < text.length(); at += 4) {
            String part = text.substring(at, Math.min(at + 4, text.length()));
            int bytes = 0;
            for (char c : part.toCharArray()) {
                bytes = bytes << 8 | c;
            }
            x.feed(bytes, part.length());
        }
    }

    static int told(HoleFills x, String text) {
        feed(x, text);
        return x.text();
    }

    /** What a text answers on a new object. */
    static int told(String text) {
        return told(new HoleFills(), text);
    }
}
