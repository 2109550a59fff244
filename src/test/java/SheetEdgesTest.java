/**
 * Sheets at their edges: none, one and forty numbers, the least and the most that 8, 16 and 64 bits hold,
 * copies from end to end and onto themselves, and what is laid, booked and read of them.
 */
public final class SheetEdgesTest extends Check {
    private static final int[] BITS = {8, 16, 64};

    public static void main(String[] args) {
        numbersInNumber();
        bitsAreCut();
        madeAnew();
        sheetsStandAlone();
        copiesEndToEnd();
        copiesOntoThemselves();
        copiesOfNone();
        laysBounds();
        laysInNumber();
        booksInNumber();
        readsInNumber();
        readsNumbersFarOut();
        readsKindsAndFills();
        imagesLeaveSheets();
        end();
    }

    private static void numbersInNumber() {
        for (int s = 0; s < 4; s++) {
            for (int bits : BITS) {
                HoleFills x = new HoleFills();
                due("29: none", x.sheet(s, bits, 0), 0);
                due("30: of none", x.write(s, 0, 5), BEYOND);
                due("29: one", x.sheet(s, bits, 1), 1);
                due("30: of one", x.write(s, 0, 5), 0);
                due("30: of one", x.write(s, 1, 5), BEYOND);
                due("29: forty", x.sheet(s, bits, 40), 40);
                for (int i = 0; i < 40; i++) {
                    due("30: all 0", x.write(s, i, i + 1), 0);
                }
                for (int i = 0; i < 40; i++) {
                    due("30: each its own", x.write(s, i, 0), i + 1);
                }
                due("30: of forty", x.write(s, 40, 5), BEYOND);
                due("30: of forty", x.write(s, -1, 5), BEYOND);
                due("29: missing", x.sheet(s, 0, 0), 0);
                due("30: of a missing one", x.write(s, 0, 5), MISSING);
                due("29: missing again", x.sheet(s, 0, 40), 0);
                due("30: of a missing one", x.write(s, 40, 5), MISSING);
            }
        }
    }

    /** What a number becomes in a sheet of so many bits. */
    private static long kept(int bits, long v) {
        HoleFills x = new HoleFills();
        x.sheet(2, bits, 2);
        x.write(2, 1, v);
        due("30: its neighbour", x.write(2, 0, 0), 0);
        return x.write(2, 1, 0);
    }

    private static void bitsAreCut() {
        long[][] eight = {{0, 0}, {1, 1}, {99, 99}, {127, 127}, {128, -128}, {255, -1}, {256, 0}, {257, 1}, {-1, -1},
            {-128, -128}, {-129, 127}, {-256, 0}, {65535, -1}, {65536, 0}, {4294967295L, -1}, {4294967296L, 0},
            {Long.MAX_VALUE, -1}, {Long.MIN_VALUE, 0}, {Long.MIN_VALUE + 5, 5}};
        for (long[] pair : eight) {
            due("30: 8 bits of " + pair[0], kept(8, pair[0]), pair[1]);
        }
        long[][] sixteen = {{0, 0}, {255, 255}, {256, 256}, {32767, 32767}, {32768, -32768}, {65535, -1}, {65536, 0},
            {65537, 1}, {-1, -1}, {-32768, -32768}, {-32769, 32767}, {-65536, 0}, {4294967295L, -1}, {4294967296L, 0},
            {Long.MAX_VALUE, -1}, {Long.MIN_VALUE, 0}, {Long.MIN_VALUE + 500, 500}};
        for (long[] pair : sixteen) {
            due("30: 16 bits of " + pair[0], kept(16, pair[0]), pair[1]);
        }
        long[] all = {0, 1, -1, 127, 128, 255, 256, 32768, 65536, 2147483647L, 2147483648L, -2147483649L, 4294967296L,
            Long.MAX_VALUE, Long.MIN_VALUE, BEYOND, FULL, KIND, NONE, STATE, MISSING, SIZE};
        for (long v : all) {
            due("30: 64 bits of " + v, kept(64, v), v);
        }
        HoleFills x = new HoleFills();
        x.sheet(0, 64, 1);
        x.write(0, 0, MISSING);
        due("30: a number that looks like a finding", x.write(0, 0, 0), MISSING);
        due("30: is none", x.status(-1), 0);
    }

    private static void madeAnew() {
        HoleFills x = new HoleFills();
        x.sheet(1, 64, 40);
        for (int i = 0; i < 40; i++) {
            x.write(1, i, -1);
        }
        due("29: fewer", x.sheet(1, 8, 1), 1);
        due("29: all 0", x.write(1, 0, 7), 0);
        due("29: no more than one", x.write(1, 1, 7), BEYOND);
        due("29: more again", x.sheet(1, 64, 40), 40);
        for (int i = 0; i < 40; i++) {
            due("29: all 0", x.write(1, i, i), 0);
        }
        due("29: as many again", x.sheet(1, 64, 40), 40);
        for (int i = 0; i < 40; i++) {
            due("29: all 0", x.write(1, i, i + 1), 0);
        }
        due("29: missing", x.sheet(1, 0, 3), 0);
        due("29: and made", x.sheet(1, 16, 40), 40);
        for (int i = 0; i < 40; i++) {
            due("29: all 0", x.write(1, i, 1), 0);
        }
        due("29: refused", x.sheet(1, 16, -1), SIZE);
        due("29: refused", x.sheet(1, 16, 41), BEYOND);
        due("29: refused", x.sheet(1, 0, -1), SIZE);
        due("29: refused", x.sheet(1, 0, 41), BEYOND);
        due("29: refused", x.sheet(1, 12, 3), BEYOND);
        for (int i = 0; i < 40; i++) {
            due("29: as it was", x.write(1, i, 1), 1);
        }
    }

    private static void sheetsStandAlone() {
        HoleFills x = new HoleFills();
        for (int s = 0; s < 4; s++) {
            x.sheet(s, BITS[s % 3], s + 1);
            for (int i = 0; i <= s; i++) {
                x.write(s, i, 10 * s + i);
            }
        }
        x.sheet(1, 0, 0);
        for (int s = 0; s < 4; s++) {
            for (int i = 0; i <= s; i++) {
                due("30: sheet " + s, x.write(s, i, 0), s == 1 ? MISSING : 10 * s + i);
            }
        }
    }

    /** Sheets 0 and 1 of forty numbers, 1, 2, .. 40 and 0, 0, .. 0. */
    private static HoleFills forties(int bits) {
        HoleFills x = new HoleFills();
        x.sheet(0, bits, 40);
        x.sheet(1, bits, 40);
        for (int i = 0; i < 40; i++) {
            x.write(0, i, i + 1);
        }
        return x;
    }

    private static void copiesEndToEnd() {
        for (int bits : BITS) {
            HoleFills x = forties(bits);
            due("31: all forty", x.copy(0, 0, 1, 0, 40), 40);
            for (int i = 0; i < 40; i++) {
                due("31: all forty", x.write(1, i, 0), i + 1);
            }
            due("31: the last to the first", x.copy(0, 39, 1, 0, 1), 1);
            due("31: the first to the last", x.copy(0, 0, 1, 39, 1), 1);
            due("31: the last to the first", x.write(1, 0, 0), 40);
            due("31: the first to the last", x.write(1, 39, 0), 1);
            for (int i = 1; i < 39; i++) {
                due("31: no others", x.write(1, i, 0), 0);
            }
            due("31: forty-one", x.copy(0, 0, 1, 0, 41), BEYOND);
            due("31: forty from 1", x.copy(0, 1, 1, 0, 40), BEYOND);
            due("31: forty to 1", x.copy(0, 0, 1, 1, 40), BEYOND);
            due("31: one from 40", x.copy(0, 40, 1, 0, 1), BEYOND);
            due("31: one to 40", x.copy(0, 0, 1, 40, 1), BEYOND);
            for (int i = 0; i < 40; i++) {
                due("31: nothing came", x.write(1, i, 0), 0);
            }
            due("31: thirty-nine from 1", x.copy(0, 1, 1, 1, 39), 39);
            due("31: thirty-nine from 1", x.write(1, 0, 0), 0);
            due("31: thirty-nine from 1", x.write(1, 1, 0), 2);
            due("31: thirty-nine from 1", x.write(1, 39, 0), 40);
        }
        HoleFills x = new HoleFills();
        x.sheet(0, 8, 1);
        x.sheet(1, 8, 1);
        x.write(0, 0, -128);
        due("31: one of one", x.copy(0, 0, 1, 0, 1), 1);
        due("31: one of one", x.write(1, 0, 0), -128);
        x.sheet(0, 64, 1);
        x.sheet(1, 64, 1);
        x.write(0, 0, Long.MIN_VALUE);
        due("31: one of one", x.copy(0, 0, 1, 0, 1), 1);
        due("31: one of one", x.write(1, 0, 0), Long.MIN_VALUE);
    }

    private static void copiesOntoThemselves() {
        HoleFills x = forties(16);
        due("31: up by one", x.copy(0, 0, 0, 1, 39), 39);
        for (int i = 0; i < 40; i++) {
            due("31: as they all were", x.write(0, i, i + 1), Math.max(i, 1));
        }
        due("31: down by one", x.copy(0, 1, 0, 0, 39), 39);
        for (int i = 0; i < 40; i++) {
            due("31: as they all were", x.write(0, i, i + 1), Math.min(i + 2, 40));
        }
        due("31: onto itself", x.copy(0, 0, 0, 0, 40), 40);
        for (int i = 0; i < 40; i++) {
            due("31: as they all were", x.write(0, i, i + 1), i + 1);
        }
        due("31: one behind the end", x.copy(0, 0, 0, 1, 40), BEYOND);
        for (int i = 0; i < 40; i++) {
            due("31: nothing came", x.write(0, i, i + 1), i + 1);
        }
    }

    private static void copiesOfNone() {
        HoleFills x = new HoleFills();
        x.sheet(0, 8, 0);
        x.sheet(1, 8, 0);
        x.sheet(2, 8, 1);
        due("31: none of none", x.copy(0, 0, 1, 0, 0), 0);
        due("31: none onto itself", x.copy(0, 0, 0, 0, 0), 0);
        due("31: one of none", x.copy(0, 0, 2, 0, 1), BEYOND);
        due("31: one to none", x.copy(2, 0, 0, 0, 1), BEYOND);
        due("31: none from the end", x.copy(2, 1, 0, 0, 0), 0);
        due("31: none from behind the end", x.copy(2, 2, 0, 0, 0), BEYOND);
        due("31: none to the end", x.copy(0, 0, 2, 1, 0), 0);
        due("31: none to behind the end", x.copy(0, 0, 2, 2, 0), BEYOND);
        due("31: none from -1", x.copy(0, -1, 1, 0, 0), BEYOND);
        due("31: none to -1", x.copy(0, 0, 1, -1, 0), BEYOND);
        due("31: fewer than none", x.copy(0, 0, 1, 0, -1), BEYOND);
        x.sheet(3, 16, 0);
        due("31: none, of other bits", x.copy(0, 0, 3, 0, 0), KIND);
        x.sheet(3, 0, 0);
        due("31: none, of a missing one", x.copy(0, 0, 3, 0, 0), MISSING);
        due("31: none, from a missing one", x.copy(3, 0, 0, 0, 0), MISSING);
    }

    /** The traffic of street 0 once a number of a sheet was laid; it was 20. */
    private static int laid(int bits, long v) {
        HoleFills x = new HoleFills();
        x.sheet(0, bits, 1);
        x.write(0, 0, v);
        int came = x.lays(0);
        int traffic = x.streetOf(0, 0);
        due("32: the next street", x.streetOf(1, 0), 20);
        due("32: it has no finding", x.status(-1), 0);
        return came == 1 ? traffic : came == 0 && traffic == 20 ? -1 : -2;
    }

    private static void laysBounds() {
        for (int bits : BITS) {
            due("32: 0", laid(bits, 0), 0);
            due("32: 99", laid(bits, 99), 99);
            due("32: 100", laid(bits, 100), -1);
            due("32: -1", laid(bits, -1), -1);
        }
        due("32: 8 bits of 356", laid(8, 356), -1);
        due("32: 8 bits of 355", laid(8, 355), 99);
        due("32: 16 bits of 256", laid(16, 256), -1);
        due("32: 16 bits of 65536", laid(16, 65536), 0);
        long[] far = {256, 65536, 4294967296L, 4294967296L + 50, -4294967296L + 50, Long.MAX_VALUE, Long.MIN_VALUE,
            Long.MIN_VALUE + 50, BEYOND};
        for (long v : far) {
            due("32: 64 bits of " + v, laid(64, v), -1);
        }
    }

    private static void laysInNumber() {
        for (int n : new int[] {0, 1, 5, 6, 7, 40}) {
            HoleFills x = new HoleFills();
            x.sheet(3, 8, n);
            for (int i = 0; i < n; i++) {
                x.write(3, i, 30 + i);
            }
            due("32: so many came", x.lays(3), Math.min(n, 6));
            for (int street = 0; street < 6; street++) {
                due("32: traffic", x.streetOf(street, 0), street < n ? 30 + street : 20);
            }
            for (int i = 0; i < n; i++) {
                due("32: they stay", x.write(3, i, 0), 30 + i);
            }
        }
        HoleFills x = new HoleFills();
        x.sheet(0, 8, 40);
        for (int i = 0; i < 6; i++) {
            x.write(0, i, 100);
        }
        due("32: none came", x.lays(0), 0);
        x.write(0, 5, 1);
        due("32: the last alone", x.lays(0), 1);
        due("32: the last alone", x.streetOf(5, 0), 1);
        due("32: not the others", x.streetOf(4, 0), 20);
    }

    private static void booksInNumber() {
        for (int bits : BITS) {
            for (int n : new int[] {0, 1, 2, 40}) {
                HoleFills x = idleAt(20);
                x.hole(HOLE, 0);
                x.hole(CRACK, 0);
                x.set(1, 2, 70);
                x.sheet(0, bits, n);
                due("33: so many", x.book(0, 1), n);
                for (int i = 0; i < n; i++) {
                    due("33: size", x.write(0, i, -1), Math.min(70 + i, 99));
                }
                due("33: so many", x.book(0, 0), n);
                // Frost from week 46 on, in the 26th week.
                for (int i = 0; i < n; i++) {
                    due("33: size", x.write(0, i, -1), Math.min(99, 5 + 3 * i + 2 * Math.max(0, i - 26)));
                }
                due("33: no week goes", x.now(0), 20);
                due("33: it stays", x.of(1, 2), 70);
            }
        }
        HoleFills x = idleAt(20);
        x.hole(CRACK, 0);
        x.set(0, 2, 0);
        x.sheet(0, 8, 40);
        x.book(0, 0);
        due("33: the last is 39 weeks on", x.write(0, 39, 0), 39);
    }

    private static void readsInNumber() {
        HoleFills x = idleAt(20);
        x.hole(HOLE, 0);
        x.sheet(0, 8, 0);
        due("34: no numbers", x.read(0, 0), 18);
        x.sheet(0, 8, 1);
        due("34: one that is not its size", x.read(0, 0), 0);
        x.write(0, 0, 5);
        due("34: one that is", x.read(0, 0), 18);
        x.sheet(0, 8, 2);
        x.write(0, 0, 5);
        x.write(0, 1, 5);
        // All that have a fill then.
        due("34: two alike", x.read(0, 0), 12);
        x.write(0, 1, 6);
        due("34: one more", x.read(0, 0), 2);
        x.write(0, 1, 7);
        due("34: two more", x.read(0, 0), 1);
        x.write(0, 1, 8);
        due("34: three more", x.read(0, 0), 3);
        x.write(0, 1, 9);
        due("34: four more", x.read(0, 0), 0);
        x.sheet(0, 8, 40);
        x.turn(0, SEAM);
        x.set(0, 3, 2);
        x.book(0, 0);
        // Hot, all but a joint hold so long; a joint has grown, and of the cold ones none holds.
        due("34: forty", x.read(0, 0), 5);
        x.write(0, 39, 6);
        due("34: the fortieth counts", x.read(0, 0), 0);
    }

    private static void readsNumbersFarOut() {
        HoleFills x = idleAt(20);
        x.hole(HOLE, 0);
        x.set(0, 2, 0);
        x.sheet(0, 64, 1);
        long[] far = {4294967296L, -4294967296L, Long.MIN_VALUE, Long.MAX_VALUE, 256, 65536, -1};
        for (long v : far) {
            x.write(0, 0, v);
            due("34: " + v, x.read(0, 0), 0);
        }
        x.write(0, 0, 0);
        due("34: 0", x.read(0, 0), 18);
        x.set(0, 2, 99);
        x.write(0, 0, 100);
        due("34: 100", x.read(0, 0), 0);
        x.sheet(0, 64, 40);
        x.book(0, 0);
        due("34: 99, all of them", x.read(0, 0), 18);
    }

    private static void readsKindsAndFills() {
        HoleFills x = idleAt(20);
        x.hole(DUCK, 0);
        x.set(0, 3, 1);
        x.set(0, 4, 999);
        x.sheet(0, 8, 4);
        for (int i = 0; i < 4; i++) {
            x.write(0, i, 5);
        }
        // A cold joint breaks in the second week and grows in the third; baths and ducks break in the third.
        due("34: of age 0, whatever it is", x.read(0, 0), 11);
        due("34: its kind stays", x.of(0, 0), DUCK);
        due("34: its fill stays", x.of(0, 3), 1);
        due("34: its age stays", x.of(0, 4), 999);
        x.town(2, 1);
        // Those without a fill are filled cold at once, those that break are filled again.
        due("34: men fill it", x.read(0, 0), 18);
        x.town(0, 0);
        due("34: without money", x.read(0, 0), 11);
    }

    private static void imagesLeaveSheets() {
        HoleFills x = new HoleFills();
        x.sheet(0, 8, 2);
        x.write(0, 0, 5);
        x.image();
        x.write(0, 0, 6);
        x.sheet(1, 16, 1);
        x.undo();
        due("36: not the sheets", x.write(0, 0, 0), 6);
        due("36: not the sheets", x.write(1, 0, 0), 0);
        x.tear();
        due("37: not the sheets", x.write(0, 1, 0), 0);
        due("39: no finding", x.status(-1), 0);
    }
}
