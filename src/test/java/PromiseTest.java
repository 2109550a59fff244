/** Every promise of the document by its number, with answers worked out by hand. */
public final class PromiseTest extends Check {
    public static void main(String[] args) {
        newObject();
        townAndStreets();
        holes();
        growth();
        holdsAndPrices();
        asAndTurn();
        fillNow();
        whoComesFirst();
        weeks();
        now();
        on();
        filledAndBreaks();
        how();
        ring();
        men();
        budget();
        kind();
        let();
        worst();
        tape();
        texts();
        faults();
        sheets();
        copies();
        laysBookRead();
        images();
        counts();
        status();
        lateWeeks();
        end();
    }

    private static void newObject() {
        HoleFills other = new HoleFills();
        HoleFills x = new HoleFills();
        told(other, "hole hot rung;street 0 traffic 7 let;budget 3;men 6");
        other.weeks(60);
        other.sheet(0, 8, 1);
        other.image();
        other.feed(0, 4);
        other.of(9, 0);
        due("1: no other's findings", x.status(-1), 0);
        int[] figures = {0, 500, 500, 1, 0, 0, 1, 0};
        for (int what = 0; what < figures.length; what++) {
            due("1: now(" + what + ")", x.now(what), figures[what]);
        }
        for (int street = 0; street < 6; street++) {
            due("1: traffic of " + street, x.streetOf(street, 0), 20);
            due("1: let of " + street, x.streetOf(street, 1), 0);
            due("1: holes in " + street, x.streetOf(street, 2), 0);
        }
        for (int what = 0; what < 4; what++) {
            due("1: count(" + what + ")", x.count(what), 0);
        }
        due("1: of(0, 0)", x.of(0, 0), BEYOND);
        due("1: tear()", x.tear(), 0);
        due("1: undo()", x.undo(), NONE);
        for (int s = 0; s < 4; s++) {
            due("1: sheet " + s, x.write(s, 0, 1), MISSING);
        }
        due("1: wipe()", x.wipe(), 0);
    }

    private static void townAndStreets() {
        HoleFills x = new HoleFills();
        int[] first = {500, 500, 1, 0};
        int[] most = {99999, 99999, 6, 1};
        for (int what = 0; what < 4; what++) {
            due("2: first", x.town(what, most[what]), first[what]);
            due("2: most", x.now(what + 1), most[what]);
            due("2: above", x.town(what, most[what] + 1), BEYOND);
            due("2: below", x.town(what, -1), BEYOND);
            due("2: kept", x.town(what, 0), most[what]);
            due("2: least", x.now(what + 1), 0);
        }
        due("2: what -1", x.town(-1, 0), BEYOND);
        due("2: what 4", x.town(4, 0), BEYOND);
        due("2: what", x.town(Integer.MIN_VALUE, 0), BEYOND);

        due("3: traffic", x.street(5, 0, 99), 20);
        due("3: traffic", x.street(5, 0, 0), 99);
        due("3: let", x.street(5, 1, 1), 0);
        due("3: let", x.street(5, 1, 1), 1);
        due("3: above", x.street(5, 0, 100), BEYOND);
        due("3: below", x.street(5, 0, -1), BEYOND);
        due("3: let above", x.street(5, 1, 2), BEYOND);
        due("3: let below", x.street(5, 1, -1), BEYOND);
        due("3: what", x.street(5, 2, 0), BEYOND);
        due("3: what", x.street(5, -1, 0), BEYOND);
        due("3: street", x.street(6, 0, 0), BEYOND);
        due("3: street", x.street(-1, 0, 0), BEYOND);
        due("3: others", x.streetOf(4, 0), 20);
        due("3: others", x.streetOf(4, 1), 0);

        x.hole(HOLE, 5);
        x.hole(HOLE, 2);
        x.hole(HOLE, 5);
        x.set(0, 3, 1);
        due("4: traffic", x.streetOf(5, 0), 0);
        due("4: let", x.streetOf(5, 1), 1);
        due("4: holes", x.streetOf(5, 2), 5);
        due("4: without a fill", x.streetOf(5, 3), 4);
        due("4: holes", x.streetOf(2, 2), 2);
        due("4: without a fill", x.streetOf(2, 3), 2);
        due("4: none", x.streetOf(0, 3), 0);
        due("4: what", x.streetOf(0, 4), BEYOND);
        due("4: what", x.streetOf(0, -1), BEYOND);
        due("4: street", x.streetOf(6, 0), BEYOND);
        due("4: street", x.streetOf(-1, 0), BEYOND);
    }

    private static void holes() {
        HoleFills x = new HoleFills();
        due("5: street", x.hole(HOLE, 6), BEYOND);
        due("5: street", x.hole(HOLE, -1), BEYOND);
        due("5: kind", x.hole(6, 0), BEYOND);
        due("5: kind", x.hole(-1, 0), BEYOND);
        for (int h = 0; h < 8; h++) {
            due("5: number", x.hole(h % 6, 5 - h % 6), h);
            due("6: kind", x.of(h, 0), h % 6);
            due("6: street", x.of(h, 1), 5 - h % 6);
            due("6: size", x.of(h, 2), 5);
            due("6: fill", x.of(h, 3), 0);
            due("6: age", x.of(h, 4), 0);
            due("6: rung", x.of(h, 5), 0);
        }
        due("5: full", x.hole(HOLE, 0), FULL);
        due("5: beyond first", x.hole(6, 0), BEYOND);
        due("5: beyond first", x.hole(0, 6), BEYOND);
        due("6: hole", x.of(8, 0), BEYOND);
        due("6: hole", x.of(-1, 0), BEYOND);
        due("6: what", x.of(0, -1), BEYOND);
        due("6: what", x.of(0, 10), BEYOND);

        int[] most = {0, 5, 99, 2, 999, 1};
        int[] was = {0, 0, 5, 0, 0, 0};
        for (int what = 1; what <= 5; what++) {
            due("7: was", x.set(5, what, most[what]), was[what]);
            due("7: is", x.of(5, what), most[what]);
            due("7: above", x.set(5, what, most[what] + 1), BEYOND);
            due("7: below", x.set(5, what, -1), BEYOND);
            due("7: kept", x.set(5, what, 0), most[what]);
            due("7: others", x.of(4, what), new int[] {0, 1, 5, 0, 0, 0}[what]);
        }
        due("7: kind", x.set(5, 0, 1), BEYOND);
        due("7: what", x.set(5, 6, 0), BEYOND);
        due("7: what", x.set(5, -1, 0), BEYOND);
        due("7: hole", x.set(8, 2, 0), BEYOND);
        due("7: hole", x.set(-1, 2, 0), BEYOND);
        x.set(5, 4, 7);
        x.set(5, 3, 2);
        due("7: a fill leaves the age", x.of(5, 4), 7);
    }

    /** GROWS of a hole in a week of the year. */
    private static int grows(int kind, int week, int size, int traffic) {
        HoleFills x = idleAt(week);
        x.street(3, 0, traffic);
        x.hole(kind, 3);
        x.set(0, 2, size);
        return x.of(0, 6);
    }

    private static void growth() {
        due("6: hole in frost", grows(HOLE, 9, 5, 20), 5);
        due("6: hole without", grows(HOLE, 10, 5, 20), 3);
        due("6: hole without", grows(HOLE, 45, 5, 19), 2);
        due("6: hole in frost", grows(HOLE, 46, 5, 0), 3);
        due("6: hole in frost", grows(HOLE, 52, 5, 99), 12);
        due("6: hole in frost", grows(HOLE, 61, 5, 9), 3);
        due("6: hole without", grows(HOLE, 62, 5, 9), 1);
        due("6: hole is not held", grows(HOLE, 20, 99, 99), 10);
        due("6: bath", grows(BATH, 20, 19, 20), 3);
        due("6: bath", grows(BATH, 20, 20, 20), 4);
        due("6: bath in frost", grows(BATH, 0, 99, 20), 9);
        due("6: crack", grows(CRACK, 0, 99, 99), 1);
        due("6: crack", grows(CRACK, 20, 99, 99), 1);
        due("6: joint", grows(JOINT, 17, 99, 20), 3);
        due("6: joint by 9", grows(JOINT, 18, 99, 20), 6);
        due("6: joint in frost", grows(JOINT, 1, 5, 20), 5);
        due("6: joint in frost by 9", grows(JOINT, 9, 5, 20), 8);
        // Week 54 is 2 of the year, week 61 is 9: only the week of the year counts.
        due("6: joint by 9 of the year", grows(JOINT, 54, 5, 20), 5);
        due("6: joint by 9 of the year", grows(JOINT, 61, 5, 20), 8);
        due("6: duck", grows(DUCK, 20, 5, 0), 0);
        due("6: duck", grows(DUCK, 20, 40, 20), 4);
        due("6: duck in frost", grows(DUCK, 0, 99, 20), 8);
        due("6: seam", grows(SEAM, 20, 99, 99), 1);
        due("6: seam in frost", grows(SEAM, 46, 99, 99), 2);

        HoleFills x = new HoleFills();
        x.hole(HOLE, 0);
        x.set(0, 3, 1);
        due("6: filled or not", x.of(0, 6), 5);
    }

    private static void holdsAndPrices() {
        HoleFills x = new HoleFills();
        int[] cold = {3, 2, 8, 1, 2, 16};
        int[] hot = {40, 39, 45, 20, 39, 90};
        int[] priceAt39 = {8, 11, 2, 8, 9, 3};
        int[] priceAt99 = {14, 17, 2, 14, 15, 3};
        for (int k = 0; k < 6; k++) {
            x.hole(k, 0);
            x.set(k, 2, 39);
            due("6: price of " + k, x.of(k, 7), priceAt39[k]);
            x.set(k, 2, 99);
            due("6: price of " + k, x.of(k, 7), priceAt99[k]);
            due("6: holds cold " + k, x.of(k, 8), cold[k]);
            due("6: holds hot " + k, x.of(k, 9), hot[k]);
            x.town(0, 99999);
            due("10: hot " + k, x.fill(k, 1), 11 * priceAt99[k]);
            x.set(k, 3, 0);
            due("10: cold " + k, x.fill(k, 0), priceAt99[k]);
        }
    }

    private static void asAndTurn() {
        HoleFills x = new HoleFills();
        String[] is = {"100000", "110000", "101000", "100100", "110010", "101001"};
        for (int k = 0; k < 6; k++) {
            x.hole(k, 0);
            x.set(k, 2, 30 + k);
            for (int above = 0; above < 6; above++) {
                int want = is[k].charAt(above) == '1' ? 30 + k : KIND;
                due("9: " + k + " as " + above, x.as(k, above), want);
            }
        }
        due("9: hole", x.as(6, 0), BEYOND);
        due("9: hole", x.as(-1, 0), BEYOND);
        due("9: kind", x.as(0, 6), BEYOND);
        due("9: kind", x.as(0, -1), BEYOND);

        due("8: was", x.turn(0, SEAM), HOLE);
        due("8: was", x.turn(0, SEAM), SEAM);
        due("8: is", x.of(0, 0), SEAM);
        due("8: size stays", x.of(0, 2), 30);
        due("8: as crack", x.as(0, CRACK), 30);
        due("8: hole", x.turn(6, 0), BEYOND);
        due("8: hole", x.turn(-1, 0), BEYOND);
        due("8: kind", x.turn(0, 6), BEYOND);
        due("8: kind", x.turn(0, -1), BEYOND);
        due("8: nothing changed", x.of(0, 0), SEAM);
    }

    private static void fillNow() {
        HoleFills x = new HoleFills();
        x.hole(HOLE, 0);
        x.hole(HOLE, 0);
        x.street(0, 1, 1);
        x.set(0, 4, 12);
        x.set(0, 5, 1);
        due("10: hole", x.fill(2, 0), BEYOND);
        due("10: hole", x.fill(-1, 0), BEYOND);
        due("10: hot", x.fill(0, 2), BEYOND);
        due("10: hot", x.fill(0, -1), BEYOND);
        due("10: cost", x.fill(0, 1), 55);
        due("10: budget", x.now(1), 445);
        due("10: spent", x.now(5), 55);
        due("10: fill", x.of(0, 3), 2);
        due("10: age", x.of(0, 4), 0);
        due("10: rung", x.of(0, 5), 0);
        due("10: again", x.fill(0, 0), STATE);
        due("10: beyond first", x.fill(0, 2), BEYOND);
        x.town(0, 4);
        due("10: too dear", x.fill(1, 0), STATE);
        due("10: nothing changed", x.of(1, 3), 0);
        x.town(0, 5);
        due("10: too dear hot", x.fill(1, 1), STATE);
        due("10: just enough", x.fill(1, 0), 5);
        due("10: fill", x.of(1, 3), 1);
        due("10: budget", x.now(1), 0);
        due("10: spent", x.now(5), 60);
    }

    private static void whoComesFirst() {
        HoleFills x = new HoleFills();
        due("11: none", x.next(), NONE);
        x.hole(HOLE, 0);
        x.hole(BATH, 1);
        x.hole(DUCK, 2);
        x.hole(DUCK, 3);
        due("11: a duck, the lesser", x.next(), 2);
        x.set(3, 2, 6);
        due("11: the greater duck", x.next(), 3);
        x.set(2, 5, 1);
        due("11: the duck rung for", x.next(), 2);
        x.set(2, 5, 0);
        x.set(0, 5, 1);
        x.set(0, 2, 99);
        due("11: a duck ahead of one rung for", x.next(), 3);
        x.street(3, 1, 1);
        due("11: not where it is let go", x.next(), 2);
        x.set(2, 3, 1);
        due("11: not one with a fill", x.next(), 0);
        x.set(0, 5, 0);
        x.set(0, 2, 5);
        due("11: the lesser number", x.next(), 0);
        x.set(1, 2, 6);
        due("11: the greater", x.next(), 1);
        x.set(0, 5, 1);
        due("11: the one rung for", x.next(), 0);
        x.town(0, 4);
        due("11: all too dear", x.next(), NONE);
        x.town(0, 5);
        x.set(0, 5, 0);
        due("11: the greater is too dear", x.next(), 0);
        x.town(3, 1);
        due("11: hot is too dear", x.next(), NONE);
        x.town(0, 55);
        due("11: hot", x.next(), 0);
        due("11: nothing changed", x.of(0, 3), 0);
    }

    private static void weeks() {
        HoleFills x = new HoleFills();
        due("12: none", x.weeks(0), BEYOND);
        due("12: too many", x.weeks(61), BEYOND);
        due("12: below", x.weeks(-1), BEYOND);
        for (int h = 0; h < 4; h++) {
            x.hole(HOLE, 0);
        }
        x.set(2, 5, 1);
        x.town(2, 2);
        due("12: two men", x.weeks(1), 10);
        due("12: rung no more", x.of(2, 5), 0);
        due("12: filled one is as large", x.of(2, 2), 5);
        due("12: the other grew", x.of(1, 2), 10);
        due("12: age", x.of(2, 4), 1);
        due("12: spent", x.now(5), 10);
        due("12: budget", x.now(1), 490);
        due("12: the rest", x.weeks(1), 0);
        due("12: held", x.weeks(1), 0);
        due("12: the first two break", x.weeks(1), 5);
        due("12: a broken one did not grow", x.of(0, 2), 5);
        due("12: its age", x.of(0, 4), 4);
        due("12: week", x.now(0), 4);

        x = idleAt(11);
        x.town(0, 7);
        x.town(1, 99);
        x.hole(CRACK, 0);
        x.town(2, 1);
        due("12: filled ahead of the new budget", x.weeks(1), 0);
        due("12: the budget of week 12", x.now(1), 99);
        x.weeks(51);
        due("12: week 63", x.now(0), 63);
        x.town(0, 3);
        x.town(2, 0);
        x.weeks(1);
        due("12: the budget of week 64", x.now(1), 99);

        x = idleAt(0);
        x.hole(HOLE, 0);
        x.set(0, 2, 96);
        due("12: no men", x.weeks(1), 1);
        due("12: held to 99", x.of(0, 2), 99);
        x.set(0, 3, 2);
        x.set(0, 4, 39);
        due("12: holds", x.weeks(1), 0);
        due("12: breaks", x.weeks(1), 1);
        x.set(0, 3, 2);
        x.set(0, 4, 999);
        x.weeks(1);
        due("12: age held to 999", x.of(0, 4), 999);
        due("12: and broken", x.of(0, 3), 0);

        x = new HoleFills();
        x.hole(HOLE, 0);
        x.hole(BATH, 0);
        x.town(2, 6);
        x.town(0, 12);
        due("12: the second is too dear then", x.weeks(1), 2);
        due("12: budget", x.now(1), 7);
        x.street(0, 1, 1);
        x.town(0, 500);
        due("12: let go", x.weeks(1), 2);
        x.street(0, 1, 0);
        x.town(3, 1);
        due("12: hot", x.weeks(1), 0);
        due("12: cold still", x.of(0, 3), 1);
        due("12: hot", x.of(1, 3), 2);
        due("12: eleven times, of size 15", x.now(5), 5 + 11 * 9);
    }

    private static void now() {
        HoleFills x = idleAt(9);
        due("13: week", x.now(0), 9);
        due("13: frost", x.now(6), 1);
        x.weeks(1);
        due("13: no frost", x.now(6), 0);
        x.weeks(35);
        due("13: no frost", x.now(6), 0);
        x.weeks(1);
        due("13: frost", x.now(6), 1);
        x.hole(HOLE, 0);
        x.hole(HOLE, 0);
        x.set(0, 2, 40);
        x.set(1, 2, 50);
        due("13: worse", x.now(7), 90);
        x.set(0, 3, 1);
        due("13: worse", x.now(7), 50);
        due("13: men", x.now(3), 0);
        due("13: what", x.now(8), BEYOND);
        due("13: what", x.now(-1), BEYOND);
    }

    private static void on() {
        HoleFills x = new HoleFills();
        x.hole(HOLE, 0);
        x.hole(HOLE, 1);
        // Week 0 fills 0 and 1 grows to 10; week 1 fills 1; 0 breaks in week 3, as 1 does in week 4,
        // and is filled anew in week 4.
        due("14: size", x.on(1, 0, 0), 5);
        due("14: size", x.on(1, 1, 0), 10);
        due("14: fill", x.on(0, 0, 1), 0);
        due("14: fill", x.on(0, 1, 1), 1);
        due("14: fill", x.on(0, 4, 1), 0);
        due("14: fill", x.on(0, 5, 1), 1);
        due("14: hole", x.on(2, 0, 0), BEYOND);
        due("14: hole", x.on(-1, 0, 0), BEYOND);
        due("14: n", x.on(0, 105, 0), BEYOND);
        due("14: n", x.on(0, -1, 0), BEYOND);
        due("14: what", x.on(0, 0, 2), BEYOND);
        due("14: what", x.on(0, 0, -1), BEYOND);
        due("14: nothing goes", x.now(0), 0);
        due("14: nothing grows", x.of(1, 2), 5);

        due("15: worse", x.worse(0), 10);
        due("15: worse", x.worse(1), 10);
        due("15: worse", x.worse(2), 0);
        due("15: worse", x.worse(4), 5);
        due("15: worse", x.worse(5), 10);
        due("15: n", x.worse(105), BEYOND);
        due("15: n", x.worse(-1), BEYOND);

        due("16: cost", x.cost(0), 0);
        due("16: cost", x.cost(1), 5);
        due("16: cost", x.cost(4), 11);
        due("16: cost", x.cost(5), 16);
        due("16: n", x.cost(105), BEYOND);
        due("16: n", x.cost(-1), BEYOND);
        x.fill(0, 0);
        due("16: more than now", x.cost(1), 5);
        due("16: nothing goes", x.now(5), 5);

        x = idleAt(0);
        x.hole(CRACK, 0);
        x.set(0, 2, 0);
        due("14: the 104th week", x.on(0, 104, 0), 99);
        due("14: the 98th week", x.on(0, 98, 0), 98);
        due("15: the 104th week", x.worse(104), 99);
        due("16: the 104th week", x.cost(104), 0);
    }

    private static void filledAndBreaks() {
        HoleFills x = new HoleFills();
        x.hole(HOLE, 0);
        x.hole(HOLE, 1);
        due("17: now", x.filled(0), 1);
        due("17: then", x.filled(1), 2);
        due("18: now", x.breaks(1), 0);
        x.set(1, 3, 2);
        due("17: it has one", x.filled(1), 0);
        due("18: in 41", x.breaks(1), 41);
        x.set(1, 4, 38);
        due("18: in 3", x.breaks(1), 3);
        x.set(1, 3, 1);
        x.set(1, 4, 3);
        due("18: in 1", x.breaks(1), 1);
        x.street(0, 1, 1);
        due("17: never", x.filled(0), NONE);
        x.turn(1, SEAM);
        x.set(1, 3, 2);
        x.set(1, 4, 0);
        due("18: in 91", x.breaks(1), 91);
        due("17: hole", x.filled(2), BEYOND);
        due("17: hole", x.filled(-1), BEYOND);
        due("18: hole", x.breaks(2), BEYOND);
        due("18: hole", x.breaks(-1), BEYOND);

        // Week 64 is the next to bring money.
        x = idleAt(13);
        x.hole(CRACK, 0);
        x.town(2, 1);
        x.town(0, 0);
        due("17: after the budget of week 64", x.filled(0), 52);
        x.town(1, 0);
        due("17: never", x.filled(0), NONE);
        x = idleAt(12);
        x.town(0, 0);
        x.hole(CRACK, 0);
        x.town(2, 1);
        x.town(1, 2);
        due("17: after 52", x.filled(0), 53);
        due("14: filled, broken, and without money", x.on(0, 62, 1), 0);
        due("17: the 104th week", secondYearFill(13), 104);
        due("17: not the 105th", secondYearFill(12), NONE);
    }

    /** A hole for which there is no money until the second year, since another is rung for. */
    private static int secondYearFill(int week) {
        HoleFills x = idleAt(week);
        x.town(0, 0);
        x.town(1, 2);
        x.town(2, 1);
        x.hole(CRACK, 0);
        x.hole(CRACK, 0);
        x.set(1, 5, 1);
        return x.filled(0);
    }

    private static void how() {
        HoleFills x = new HoleFills();
        due("19: both", x.how(1), 0);
        x.hole(HOLE, 0);
        due("19: both", x.how(3), 0);
        due("19: hot", x.how(4), 1);
        x.town(3, 1);
        due("19: whatever is", x.how(3), 0);
        x.town(0, 54);
        due("19: cold is to be had", x.how(3), 0);
        x.town(0, 4);
        due("19: neither", x.how(3), 0);
        // Hot, the money is gone with the first; cold, it is enough for both.
        x.hole(HOLE, 0);
        x.town(0, 60);
        due("19: cold", x.how(2), 0);
        x.town(0, 120);
        due("19: cold", x.how(5), 0);
        x.town(0, 121);
        due("19: hot, 55 and 66", x.how(5), 1);
        due("19: n", x.how(0), BEYOND);
        due("19: n", x.how(105), BEYOND);
        due("19: n", x.how(104) >= 0 ? 1 : 0, 1);
        due("19: nothing changed", x.now(4), 1);
    }

    private static void ring() {
        HoleFills x = new HoleFills();
        due("20: none", x.ring(1), NONE);
        x.hole(HOLE, 0);
        x.hole(CRACK, 0);
        x.hole(HOLE, 1);
        x.street(1, 0, 99);
        // A week on: with 0 filled 6 + 17 stay, with 1: 10 + 17, with 2: 10 + 6.
        due("20: the one with traffic", x.ring(1), 2);
        x.set(2, 5, 1);
        // 0 or 1 is filled in its stead then, and 6 + 17 or 10 + 17 stay.
        due("20: one that isn't", x.ring(1), 0);
        x.street(0, 0, 0);
        x.set(1, 2, 0);
        x.set(0, 2, 4);
        // 2 goes ahead of 0 and of 1.
        due("20: the least of several", x.ring(1), 0);
        x.street(0, 0, 20);
        x.set(0, 2, 5);
        x.set(0, 5, 1);
        x.set(1, 5, 1);
        due("20: all are", x.ring(1), NONE);
        x = new HoleFills();
        x.hole(HOLE, 0);
        x.hole(HOLE, 0);
        due("20: the least of several", x.ring(1), 0);
        x.set(0, 5, 1);
        x.set(1, 3, 2);
        due("20: one with a fill too", x.ring(1), 1);
        due("20: n", x.ring(0), BEYOND);
        due("20: n", x.ring(53), BEYOND);
        due("20: n", x.ring(52), 1);
        due("20: beyond first", new HoleFills().ring(0), BEYOND);
        due("20: nothing changed", x.of(1, 5), 0);
    }

    private static void men() {
        HoleFills x = new HoleFills();
        due("21: nobody", x.men(1, 0), 0);
        for (int h = 0; h < 7; h++) {
            x.hole(HOLE, 0);
        }
        // Each that is left is of 10 a week on.
        due("21: nobody", x.men(1, 70), 0);
        due("21: one", x.men(1, 69), 1);
        due("21: five", x.men(1, 20), 5);
        due("21: six", x.men(1, 19), 6);
        due("21: six", x.men(1, 10), 6);
        due("21: none", x.men(1, 9), NONE);
        due("21: in two weeks", x.men(2, 0), 4);
        due("21: n", x.men(0, 0), BEYOND);
        due("21: n", x.men(53, 0), BEYOND);
        due("21: v", x.men(1, -1), BEYOND);
        due("21: v", x.men(1, 1000), BEYOND);
        due("21: most", x.men(52, 999), 0);
        due("21: nothing changed", x.now(3), 1);
    }

    private static void budget() {
        HoleFills x = new HoleFills();
        due("22: nothing", x.budget(1, 0), 0);
        x.hole(HOLE, 0);
        due("22: five", x.budget(1, 0), 5);
        due("22: nothing", x.budget(1, 10), 0);
        x.town(3, 1);
        due("22: hot", x.budget(4, 0), 55);
        due("22: not once week 12 brings the yearly one", x.budget(20, 0), 0);
        x.set(0, 2, 90);
        due("22: hot and large", x.budget(1, 0), 154);
        x.town(2, 6);
        for (int h = 1; h < 8; h++) {
            x.hole(BATH, 0);
            x.set(h, 2, 99);
        }
        due("22: more than six men", x.budget(1, 0), NONE);
        // Baths at 187 go ahead of the hole at 154: with 902 four of them and the hole, with 935 five.
        x.town(0, 0);
        due("22: five of eight", x.budget(1, 297), 902);
        due("22: beyond 999", x.budget(1, 198), NONE);
        due("22: n", x.budget(0, 0), BEYOND);
        due("22: n", x.budget(21, 0), BEYOND);
        due("22: v", x.budget(1, -1), BEYOND);
        due("22: v", x.budget(1, 1000), BEYOND);
        due("22: most", x.budget(20, 999), 0);
        due("22: nothing changed", x.now(1), 0);

        x = idleAt(11);
        x.hole(HOLE, 0);
        x.town(2, 1);
        due("22: the budget of week 12 comes", x.budget(2, 0), 0);
        due("22: it comes too late", x.budget(1, 0), 5);

        // Joints and baths that six men fill cold, over and over, just run out of money.
        x = dearTown(new int[] {96, 91, 94, 80, 92, 54, 95, 94}, 26);
        x.town(0, 998);
        due("22: 998 is not enough", x.worse(20) > 552 ? 1 : 0, 1);
        x.town(0, 999);
        due("22: 999 is", x.worse(20), 552);
        due("22: the most that is tried", x.budget(20, 552), 999);
        x = dearTown(new int[] {94, 97, 98, 92, 99, 21, 99, 96}, 1);
        x.town(0, 1000);
        due("22: 1000 would be enough", x.worse(19), 229);
        due("22: but is not tried", x.budget(19, 229), NONE);
    }

    /** A town in week 12 with much traffic and eight holes of sizes: baths, as a set, and joints. */
    private static HoleFills dearTown(int[] sizes, int baths) {
        HoleFills x = idleAt(12);
        x.town(2, 6);
        x.street(0, 0, 99);
        for (int h = 0; h < sizes.length; h++) {
            x.hole((baths >> h & 1) == 1 ? BATH : JOINT, 0);
            x.set(h, 2, sizes[h]);
        }
        return x;
    }

    private static void kind() {
        HoleFills x = idleAt(0);
        x.hole(HOLE, 0);
        due("23: crack", x.kind(0, 1), CRACK);
        x = idleAt(20);
        x.hole(HOLE, 0);
        due("23: crack, the least of crack and seam", x.kind(0, 1), CRACK);
        x.street(0, 0, 0);
        due("23: duck", x.kind(0, 1), DUCK);
        x.set(0, 3, 1);
        due("23: all the same", x.kind(0, 1), HOLE);
        due("23: n", x.kind(0, 0), BEYOND);
        due("23: n", x.kind(0, 53), BEYOND);
        due("23: n", x.kind(0, 52), CRACK);
        due("23: hole", x.kind(1, 1), BEYOND);
        due("23: hole", x.kind(-1, 1), BEYOND);
        due("23: nothing changed", x.of(0, 0), HOLE);
    }

    private static void let() {
        HoleFills x = new HoleFills();
        due("24: none", x.let(1), 0);
        x.hole(HOLE, 0);
        x.hole(HOLE, 5);
        x.street(5, 0, 99);
        x.street(5, 1, 1);
        x.street(3, 1, 1);
        // With one man: 0 filled leaves 17, 5 filled leaves 10.
        due("24: street 0", x.let(1), 1);
        x.set(1, 2, 6);
        due("24: none, the larger is filled", x.let(1), 0);
        x.turn(0, DUCK);
        due("24: the duck's street", x.let(1), 1);
        x.set(1, 3, 1);
        due("24: none", x.let(1), 0);
        due("24: n", x.let(0), BEYOND);
        due("24: n", x.let(27), BEYOND);
        due("24: n", x.let(26) >= 0 ? 1 : 0, 1);
        due("24: nothing changed", x.streetOf(5, 1), 1);
        due("24: nothing changed", x.streetOf(0, 1), 0);
    }

    private static void worst() {
        HoleFills x = idleAt(0);
        due("25: none", x.worst(0), 0);
        x.hole(HOLE, 5);
        due("25: street 5", x.worst(0), 5);
        x.hole(CRACK, 2);
        due("25: the least of several", x.worst(0), 2);
        due("25: it grows", x.worst(1), 5);
        x.hole(CRACK, 2);
        due("25: two together", x.worst(1), 2);
        due("25: and are overtaken", x.worst(2), 5);
        x.set(0, 3, 2);
        due("25: not one with a fill", x.worst(2), 2);
        due("25: which breaks", x.worst(104), 2);
        due("25: n", x.worst(-1), BEYOND);
        due("25: n", x.worst(105), BEYOND);
        due("25: nothing goes", x.now(0), 0);
    }

    private static void tape() {
        HoleFills x = new HoleFills();
        due("26: n", x.feed(0, 0), BEYOND);
        due("26: n", x.feed(0, 5), BEYOND);
        due("26: n", x.feed(0, -1), BEYOND);
        due("26: highest first", x.feed(0x6D656E20, 4), 4);
        due("26: the lowest alone", x.feed(0x7A7A7A33, 1), 5);
        due("26: men 3", x.text(), 1);
        due("26: men 3", x.now(3), 3);
        due("26: two", x.feed(0x7A7A6D65, 2), 2);
        due("26: three", x.feed(0x7A6E2035, 3), 5);
        due("26: men 5", x.text(), 1);
        due("26: men 5", x.now(3), 5);
        for (int i = 1; i <= 29; i++) {
            due("26: so many", x.feed(-1, 4), 4 * i);
        }
        due("26: 118", x.feed(0, 2), 118);
        due("26: full", x.feed(0, 3), FULL);
        due("26: full", x.feed(0, 4), FULL);
        due("26: just", x.feed(0, 2), 120);
        due("26: full", x.feed(0, 1), FULL);
        due("26: beyond first", x.feed(0, 5), BEYOND);
        due("26: as many", x.count(1), 120);
        due("27: wipe", x.wipe(), 120);
        due("27: wipe", x.wipe(), 0);
        due("27: empty", x.count(1), 0);
        due("26: anew", x.feed(0, 1), 1);
    }

    private static void texts() {
        HoleFills x = new HoleFills();
        due("28: hole", told(x, "hole"), 1);
        due("28: all of it", told(x, "duck in 3 size 40 hot rung"), 1);
        int[] plain = {HOLE, 0, 5, 0, 0, 0};
        int[] duck = {DUCK, 3, 40, 2, 0, 1};
        for (int what = 0; what < 6; what++) {
            due("28: hole", x.of(0, what), plain[what]);
            due("28: duck", x.of(1, what), duck[what]);
        }
        due("28: kinds", told(x, "bath cold;crack in 5;joint size 0;seam rung"), 4);
        int[][] rows = {{BATH, 0, 5, 1, 0, 0}, {CRACK, 5, 5, 0, 0, 0}, {JOINT, 0, 0, 0, 0, 0}, {SEAM, 0, 5, 0, 0, 1}};
        for (int h = 0; h < rows.length; h++) {
            for (int what = 0; what < 6; what++) {
                due("28: hole " + (2 + h), x.of(2 + h, what), rows[h][what]);
            }
        }
        due("28: it is empty", x.count(1), 0);
        due("28: costs nothing", x.now(5), 0);

        due("28: street", told(x, "street 2 traffic 99 let"), 1);
        due("28: traffic", x.streetOf(2, 0), 99);
        due("28: let", x.streetOf(2, 1), 1);
        due("28: street alone", told(x, "street 2"), 1);
        due("28: traffic stays", x.streetOf(2, 0), 99);
        due("28: let not", x.streetOf(2, 1), 0);
        due("28: street let", told(x, "street 5 let ; street 4 traffic 0"), 2);
        due("28: let", x.streetOf(5, 1), 1);
        due("28: traffic", x.streetOf(4, 0), 0);
        due("28: budget", told(x, "budget 9999; men 6"), 2);
        due("28: budget", x.now(1), 9999);
        due("28: men", x.now(3), 6);
        due("28: without blanks", told(x, "men0;budget0007"), 2);
        due("28: men", x.now(3), 0);
        due("28: noughts", x.now(1), 7);
        due("28: many noughts", told(x, "budget 0000000000000000000000000000000000012"), 1);
        due("28: many noughts", x.now(1), 12);
        due("28: blanks", told(x, "   men   2   ;  men 3  "), 2);
        due("28: the later", x.now(3), 3);
        due("28: without blanks", told(x, "crack in1size2cold"), 1);
        due("28: without blanks", x.of(6, 1), 1);
        due("28: without blanks", x.of(6, 2), 2);
        due("28: without blanks", x.of(6, 3), 1);
        due("28: 5;5", told(x, "men 1;men 1;men 1;men 1;men 1"), 5);
        due("28: the eighth, and a ninth", told(x, "hole;budget 3;hole"), -14 - 1);
        due("28: nothing changes", x.count(0), 7);
        due("28: nothing changes", x.now(1), 12);
        due("28: the eighth", told(x, "hole"), 1);
        due("28: the ninth", told(x, " hole"), -2);
        due("28: no finding", x.status(-1), 0);
        due("28: a fill in a text is of age 0", x.of(1, 4), 0);
    }

    private static void faults() {
        due("28: empty", told(""), -1);
        due("28: blanks", told("   "), -4);
        due("28: sign", told(";"), -1);
        due("28: ends with a sign", told("hole;"), -6);
        due("28: two signs", told("hole;;hole"), -6);
        due("28: a number", told("5"), -1);
        due("28: another word", told("holes"), -1);
        due("28: another word", told("hol"), -1);
        due("28: another word", told("xole"), -1);
        due("28: a great letter", told("Hole"), -1);
        due("28: another byte", told("hole ?"), -6);
        due("28: a tab is no blank", told("hole\tin 3"), -5);
        due("28: another byte behind a word", told("hole" + (char) 233), -5);
        due("28: byte 0", told("" + (char) 0), -1);
        due("28: two words in one", told("holein 3"), -1);
        due("28: in and the end", told("hole in"), -8);
        due("28: in and the end", told("hole in  "), -10);
        due("28: in and a word", told("hole in size"), -9);
        due("28: in and a sign", told("hole in ;"), -9);
        due("28: street 6", told("hole in 6"), -9);
        due("28: in behind size", told("hole size 5 in 3"), -13);
        due("28: size and the end", told("hole size"), -10);
        due("28: size and the end", told("duck in 3 size "), -16);
        due("28: size and a sign", told("hole size;hole"), -10);
        due("28: size 100", told("hole size 100"), -11);
        due("28: size 12345678901234567890", told("hole size 12345678901234567890"), -11);
        due("28: size 4294967296", told("hole size 4294967296"), -11);
        due("28: size twice", told("hole size 5 size 6"), -13);
        due("28: cold and hot", told("hole cold hot"), -11);
        due("28: rung and cold", told("hole rung cold"), -11);
        due("28: rung twice", told("hole rung rung"), -11);
        due("28: number behind", told("hole in 3 4"), -11);
        due("28: let behind a hole", told("hole let"), -6);
        due("28: street", told("street"), -7);
        due("28: street 6", told("street 6"), -8);
        due("28: street let", told("street let"), -8);
        due("28: traffic 100", told("street 0 traffic 100"), -18);
        due("28: traffic", told("street 0 traffic"), -17);
        due("28: traffic let", told("street 0 traffic let"), -18);
        due("28: let traffic", told("street 0 let traffic 3"), -14);
        due("28: let let", told("street 0 let let"), -14);
        due("28: budget", told("budget"), -7);
        due("28: budget 10000", told("budget 10000"), -8);
        due("28: budget hole", told("budget hole"), -8);
        due("28: budget 1 2", told("budget 1 2"), -10);
        due("28: men 7", told("men 7"), -5);
        due("28: men", told("men"), -4);
        due("28: the first of two", told("men 7 ? ?"), -5);
        HoleFills x = new HoleFills();
        due("28: a fault behind", told(x, "men 3;budget 5;street 0 traffic 5 let;hole;x"), -44);
        due("28: nothing changes", x.now(3), 1);
        due("28: nothing changes", x.now(1), 500);
        due("28: nothing changes", x.streetOf(0, 0), 20);
        due("28: nothing changes", x.streetOf(0, 1), 0);
        due("28: nothing changes", x.count(0), 0);
        due("28: but the tape", x.count(1), 0);
        due("28: no finding", x.status(-1), 0);
        due("28: 20 items on a whole tape", told("men 1;men 1;men 1;men 1;men 1;men 1;men 1;men 1;men 1;men 1;"
            + "men 1;men 1;men 1;men 1;men 1;men 1;men 1;men 1;men 1;men  1"), 20);
        due("28: 24 items on a whole tape, and a sign", told("men1;men1;men1;men1;men1;men1;men1;men1;men1;men1;men1;men1;"
            + "men1;men1;men1;men1;men1;men1;men1;men1;men1;men1;men1;men1;"), -121);
    }

    private static void sheets() {
        HoleFills x = new HoleFills();
        due("29: sheet", x.sheet(4, 8, 1), BEYOND);
        due("29: sheet", x.sheet(-1, 8, 1), BEYOND);
        due("29: bits", x.sheet(0, 32, 1), BEYOND);
        due("29: bits", x.sheet(0, -8, 1), BEYOND);
        due("29: bits first", x.sheet(0, 1, -1), BEYOND);
        due("29: sheet first", x.sheet(4, 8, -1), BEYOND);
        due("29: n", x.sheet(0, 8, -1), SIZE);
        due("29: n", x.sheet(0, 0, -1), SIZE);
        due("29: n", x.sheet(0, 8, 41), BEYOND);
        due("29: n", x.sheet(0, 0, 41), BEYOND);
        due("29: still missing", x.write(0, 0, 0), MISSING);
        due("29: 40", x.sheet(0, 8, 40), 40);
        due("29: 16 bits", x.sheet(1, 16, 2), 2);
        due("29: 64 bits", x.sheet(2, 64, 1), 1);
        due("29: none", x.sheet(3, 64, 0), 0);

        due("30: sheet", x.write(4, 0, 0), BEYOND);
        due("30: sheet", x.write(-1, 0, 0), BEYOND);
        due("30: number", x.write(0, 40, 0), BEYOND);
        due("30: number", x.write(0, -1, 0), BEYOND);
        due("30: number", x.write(3, 0, 0), BEYOND);
        due("30: 0 at first", x.write(0, 39, 127), 0);
        due("30: 8 bits", x.write(0, 39, 128), 127);
        due("30: 8 bits", x.write(0, 39, 0x1234L), -128);
        due("30: 8 bits", x.write(0, 39, -1), 0x34);
        due("30: 8 bits", x.write(0, 39, 0), -1);
        due("30: 16 bits", x.write(1, 1, 32767), 0);
        due("30: 16 bits", x.write(1, 1, 32768), 32767);
        due("30: 16 bits", x.write(1, 1, 0x123456L), -32768);
        due("30: 16 bits", x.write(1, 1, 0), 0x3456);
        due("30: 64 bits", x.write(2, 0, Long.MIN_VALUE), 0);
        due("30: 64 bits", x.write(2, 0, Long.MAX_VALUE), Long.MIN_VALUE);
        due("30: 64 bits", x.write(2, 0, BEYOND), Long.MAX_VALUE);
        int findings = x.status(-1);
        due("30: no finding", x.write(2, 0, 0), BEYOND);
        due("30: no finding", x.status(-1), findings);

        x.write(0, 3, 9);
        due("29: anew", x.sheet(0, 8, 40), 40);
        due("29: all 0", x.write(0, 3, 5), 0);
        due("29: nothing changes", x.sheet(0, 8, 41), BEYOND);
        due("29: nothing changes", x.write(0, 3, 5), 5);
        due("29: gone", x.sheet(0, 0, 40), 0);
        due("29: gone", x.write(0, 3, 5), MISSING);
        due("30: missing first", x.write(0, -1, 5), MISSING);
        due("29: shorter", x.sheet(0, 8, 3), 3);
        due("29: shorter", x.write(0, 3, 5), BEYOND);
    }

    private static void copies() {
        HoleFills x = new HoleFills();
        due("31: sheet", x.copy(4, 0, 0, 0, 0), BEYOND);
        due("31: sheet", x.copy(0, 0, -1, 0, 0), BEYOND);
        due("31: missing", x.copy(0, 0, 1, 0, 0), MISSING);
        x.sheet(0, 8, 5);
        due("31: missing", x.copy(0, 0, 1, 0, 0), MISSING);
        due("31: missing", x.copy(1, 0, 0, 0, 0), MISSING);
        x.sheet(1, 16, 5);
        due("31: kind", x.copy(0, 0, 1, 0, 0), KIND);
        due("31: kind first", x.copy(0, -1, 1, 0, 0), KIND);
        x.sheet(1, 8, 3);
        for (int i = 0; i < 5; i++) {
            x.write(0, i, i + 1);
        }
        due("31: from", x.copy(0, -1, 1, 0, 1), BEYOND);
        due("31: to", x.copy(0, 0, 1, -1, 1), BEYOND);
        due("31: n", x.copy(0, 0, 1, 0, -1), BEYOND);
        due("31: not so many", x.copy(0, 0, 1, 0, 4), BEYOND);
        due("31: not so many", x.copy(0, 3, 1, 0, 3), BEYOND);
        due("31: not so many", x.copy(0, 0, 1, 2, 2), BEYOND);
        due("31: far beyond", x.copy(0, 1, 1, 1, Integer.MAX_VALUE), BEYOND);
        due("31: far beyond", x.copy(0, Integer.MAX_VALUE, 1, 0, 1), BEYOND);
        due("31: far beyond", x.copy(0, 0, 1, Integer.MAX_VALUE, 1), BEYOND);
        due("31: none at the end", x.copy(0, 5, 1, 3, 0), 0);
        due("31: none behind it", x.copy(0, 6, 1, 3, 0), BEYOND);
        due("31: none behind it", x.copy(0, 5, 1, 4, 0), BEYOND);
        due("31: two", x.copy(0, 3, 1, 1, 2), 2);
        due("31: two", x.write(1, 0, 0), 0);
        due("31: two", x.write(1, 1, 0), 4);
        due("31: two", x.write(1, 2, 0), 5);
        due("31: onto itself", x.copy(0, 0, 0, 0, 5), 5);
        due("31: as they all were", x.copy(0, 0, 0, 1, 4), 4);
        int[] up = {1, 1, 2, 3, 4};
        for (int i = 0; i < 5; i++) {
            due("31: as they all were", x.write(0, i, i + 1), up[i]);
        }
        due("31: as they all were", x.copy(0, 1, 0, 0, 4), 4);
        int[] down = {2, 3, 4, 5, 5};
        for (int i = 0; i < 5; i++) {
            due("31: as they all were", x.write(0, i, i + 1), down[i]);
        }
        x.sheet(2, 64, 2);
        x.sheet(3, 64, 2);
        x.write(2, 0, Long.MIN_VALUE + 5);
        due("31: 64 bits", x.copy(2, 0, 3, 1, 1), 1);
        due("31: 64 bits", x.write(3, 1, 0), Long.MIN_VALUE + 5);
        due("31: all of it", x.copy(2, 0, 3, 0, 2), 2);
        due("31: all of it", x.write(3, 0, 0), Long.MIN_VALUE + 5);
        due("31: it stays", x.write(2, 0, 0), Long.MIN_VALUE + 5);
    }

    private static void laysBookRead() {
        HoleFills x = new HoleFills();
        due("32: sheet", x.lays(4), BEYOND);
        due("32: sheet", x.lays(-1), BEYOND);
        due("32: missing", x.lays(0), MISSING);
        x.sheet(0, 16, 8);
        int[] numbers = {99, 100, -1, 0, 256, 50, 60, 70};
        int[] traffic = {99, 20, 20, 0, 20, 50};
        for (int i = 0; i < 8; i++) {
            x.write(0, i, numbers[i]);
        }
        due("32: three came", x.lays(0), 3);
        for (int s = 0; s < 6; s++) {
            due("32: traffic", x.streetOf(s, 0), traffic[s]);
        }
        x.sheet(1, 64, 2);
        x.write(1, 0, 4294967297L);
        x.write(1, 1, 7);
        due("32: one came", x.lays(1), 1);
        due("32: left out", x.streetOf(0, 0), 99);
        due("32: came", x.streetOf(1, 0), 7);
        x.sheet(1, 8, 0);
        due("32: none", x.lays(1), 0);

        x = idleAt(8);
        due("33: sheet", x.book(4, 0), BEYOND);
        due("33: sheet", x.book(-1, 0), BEYOND);
        due("33: missing", x.book(0, 0), MISSING);
        due("34: sheet", x.read(4, 0), BEYOND);
        due("34: sheet", x.read(-1, 0), BEYOND);
        due("34: missing", x.read(0, 0), MISSING);
        x.sheet(0, 8, 5);
        due("33: hole", x.book(0, 0), BEYOND);
        due("34: hole", x.read(0, 0), BEYOND);
        x.hole(HOLE, 0);
        due("33: hole", x.book(0, 1), BEYOND);
        due("33: hole", x.book(0, -1), BEYOND);
        due("34: hole", x.read(0, 1), BEYOND);
        due("34: hole", x.read(0, -1), BEYOND);
        due("33: five", x.book(0, 0), 5);
        // A bath that is below 20 grows as a hole does; none of the others by 5, 5, 3, 3.
        due("34: hole and bath", x.read(0, 0), 2);
        int[] sizes = {5, 10, 15, 18, 21};
        for (int i = 0; i < 5; i++) {
            due("33: size", x.write(0, i, sizes[i]), sizes[i]);
        }
        due("33: nothing goes", x.now(0), 8);
        due("34: hole and bath", x.read(0, 0), 2);
        x.write(0, 0, 6);
        due("34: not from the first on", x.read(0, 0), 0);
        x.write(0, 0, 5);
        for (int i = 1; i < 5; i++) {
            x.write(0, i, 5);
        }
        // All hot ones, and those cold ones that hold: hole 3, crack 8, seam 16; a bath's breaks in week 3
        // and it grows in week 4, a hole's breaks in week 4 and it would grow in week 5.
        due("34: those with a fill", x.read(0, 0), 6 + 3);
        x.set(0, 3, 1);
        x.set(0, 4, 3);
        due("34: of age 0, whatever it is", x.read(0, 0), 6 + 3);
        x.sheet(0, 8, 0);
        due("34: no numbers", x.read(0, 0), 18);
        due("33: no numbers", x.book(0, 0), 0);
        x.sheet(1, 64, 1);
        x.write(1, 0, 4294967301L);
        due("34: another number", x.read(1, 0), 0);
        due("34: nothing changed", x.of(0, 0), HOLE);
        due("34: nothing changed", x.of(0, 3), 1);
        due("34: nothing changed", x.of(0, 4), 3);
    }

    private static void images() {
        HoleFills x = new HoleFills();
        due("37: nothing", x.tear(), 0);
        due("36: nothing", x.undo(), NONE);
        x.hole(DUCK, 4);
        for (int what = 2; what <= 5; what++) {
            x.set(0, what, 1);
        }
        x.street(4, 0, 77);
        x.street(4, 1, 1);
        x.town(0, 11);
        x.town(1, 22);
        x.town(2, 3);
        x.town(3, 1);
        x.sheet(0, 8, 1);
        due("35: kept", x.image(), 1);
        x.hole(HOLE, 0);
        x.turn(0, BATH);
        for (int what = 1; what <= 5; what++) {
            x.set(0, what, 0);
        }
        x.street(4, 0, 0);
        x.street(4, 1, 0);
        for (int what = 0; what < 4; what++) {
            x.town(what, 0);
        }
        x.town(0, 5000);
        x.fill(1, 1);
        x.weeks(3);
        feed(x, "men 5");
        x.write(0, 0, 9);
        due("36: one hole", x.undo(), 1);
        int[] hole = {DUCK, 4, 1, 1, 1, 1};
        for (int what = 0; what < 6; what++) {
            due("36: hole", x.of(0, what), hole[what]);
        }
        int[] figures = {0, 11, 22, 3, 1, 0};
        for (int what = 0; what < 6; what++) {
            due("36: now " + what, x.now(what), figures[what]);
        }
        due("36: traffic", x.streetOf(4, 0), 77);
        due("36: let", x.streetOf(4, 1), 1);
        due("36: the second is gone", x.of(1, 0), BEYOND);
        due("36: not the tape", x.count(1), 5);
        due("36: nor the sheets", x.write(0, 0, 9), 9);
        x.set(0, 2, 50);
        x.street(4, 0, 3);
        due("36: it stays", x.undo(), 1);
        due("36: it stays", x.of(0, 2), 1);
        due("36: it stays", x.streetOf(4, 0), 77);
        x.hole(SEAM, 1);
        due("35: the latest", x.image(), 1);
        x.hole(SEAM, 1);
        due("36: the latest", x.undo(), 2);
        due("37: torn", x.tear(), 1);
        due("37: torn", x.tear(), 0);
        due("36: none", x.undo(), NONE);
        due("37: nothing else", x.count(0), 2);
        x.hole(SEAM, 1);
        due("36: none changes nothing", x.count(0), 3);
    }

    private static void counts() {
        HoleFills x = new HoleFills();
        for (int h = 0; h < 5; h++) {
            x.hole(HOLE, 0);
        }
        x.set(0, 3, 2);
        x.set(1, 3, 1);
        x.set(2, 5, 1);
        x.set(0, 5, 1);
        x.set(4, 5, 1);
        x.feed(0, 4);
        due("38: holes", x.count(0), 5);
        due("38: bytes", x.count(1), 4);
        due("38: with a fill", x.count(2), 2);
        due("38: rung for", x.count(3), 3);
        due("38: what", x.count(4), BEYOND);
        due("38: what", x.count(-1), BEYOND);
    }

    private static void status() {
        HoleFills x = new HoleFills();
        for (int which = -1; which <= 6; which++) {
            due("39: none", x.status(which), 0);
        }
        due("39: another one", x.status(7), BEYOND);
        due("39: counted from then on", x.status(0), 1);
        due("39: another one", x.status(-2), BEYOND);
        due("39: counted from then on", x.status(-1), 2);
        for (int h = 0; h < 8; h++) {
            x.hole(HOLE, 0);
        }
        x.image();
        x.hole(HOLE, 0);
        x.as(0, 1);
        x.as(0, 1);
        x.town(0, 0);
        x.next();
        x.fill(0, 0);
        x.lays(0);
        x.write(0, 0, 0);
        x.write(0, 0, 0);
        x.sheet(0, 8, -1);
        x.undo();
        int[] each = {2, 1, 2, 1, 1, 3, 1};
        for (int which = 0; which < 7; which++) {
            due("39: which " + which, x.status(which), each[which]);
        }
        due("39: all", x.status(-1), 11);
        x.tear();
        x.text();
        due("39: no finding", x.status(-1), 11);
    }

    private static void lateWeeks() {
        HoleFills x = idleAt(9960);
        x.hole(CRACK, 0);
        x.set(0, 2, 0);
        due("12: above 9999", x.weeks(40), STATE);
        due("12: beyond first", x.weeks(61), BEYOND);
        due("12: nothing changed", x.now(0), 9960);
        due("12: to 9999", x.weeks(39), 1);
        due("12: week", x.now(0), 9999);
        due("12: no more", x.weeks(1), STATE);
        due("12: week", x.now(0), 9999);
        due("14: but on", x.on(0, 50, 0), 89);
        x.town(0, 0);
        x.town(2, 1);
        // Week 9999 is 15 of its year: the next budget comes in 49 weeks.
        due("17: and on", x.filled(0), 50);
    }
}
