import java.lang.reflect.Field;

/**
 * The weeks at their edges: what is held to a most or a least, what is cut, where the year begins anew,
 * when a fill just holds, what the money is just enough for, and who comes first of several alike.
 */
public final class WeekEdgesTest extends Check {
    private static final int YEARS = 9999 / 52;

    public static void main(String[] args) throws ReflectiveOperationException {
        frost();
        joints();
        trafficIsCut();
        sizeIsCut();
        duckGrowsNought();
        sizeIsHeld();
        fillsJustHold();
        ageIsHeld();
        brokenOnesDoNotGrow();
        yearlyBudget();
        menInNumber();
        moneyJustEnough();
        moneyRunsOut();
        whoComesFirst();
        fillTakesWhatItCosts();
        onAtItsEnds();
        onBeyondTheLastWeek();
        howAtItsEdges();
        ringAtItsEdges();
        menAtTheirEdges();
        budgetAtItsEdges();
        kindAtItsEdges();
        letAtItsEdges();
        worstAtItsEdges();
        eachStreetIsWorst();
        imagesInNumber();
        spentIsHeld();
        end();
    }

    private static HoleFills withHoles(int week, int... kinds) {
        HoleFills x = idleAt(week);
        for (int kind : kinds) {
            x.hole(kind, 0);
        }
        return x;
    }

    private static void frost() {
        int[] in = {0, 9, 46, 51, 52, 61, 98, 103, 104, 113, 150, 52 * YEARS, 52 * YEARS + 9, 52 * YEARS - 6};
        int[] out = {10, 45, 62, 97, 114, 149, 52 * YEARS + 10, 52 * YEARS - 7, 9999};
        for (int week : in) {
            HoleFills x = withHoles(week, HOLE, BATH, CRACK, DUCK, SEAM);
            due("13: frost in " + week, x.now(6), 1);
            int[] grows = {5, 5, 1, 4, 2};
            for (int h = 0; h < 5; h++) {
                due("6: " + h + " grows in " + week, x.of(h, 6), grows[h]);
            }
        }
        for (int week : out) {
            HoleFills x = withHoles(week, HOLE, BATH, CRACK, DUCK, SEAM);
            due("13: no frost in " + week, x.now(6), 0);
            int[] grows = {3, 3, 1, 2, 1};
            for (int h = 0; h < 5; h++) {
                due("6: " + h + " grows in " + week, x.of(h, 6), grows[h]);
            }
        }
    }

    private static void joints() {
        int[] more = {0, 9, 18, 27, 36, 45};
        HoleFills x = withHoles(0, JOINT, HOLE);
        for (int week = 0; week < 120; week++) {
            int extra = 0;
            for (int w : more) {
                extra = week % 52 == w ? 3 : extra;
            }
            due("6: a joint more than a hole in " + week, x.of(0, 6) - x.of(1, 6), extra);
            x.weeks(1);
        }
    }

    private static void trafficIsCut() {
        HoleFills x = withHoles(20, HOLE, CRACK);
        for (int t = 0; t <= 99; t++) {
            x.street(0, 0, t);
            due("6: a tenth of " + t, x.of(0, 6), 1 + (t - t % 10) / 10);
            due("6: not of a crack", x.of(1, 6), 1);
        }
    }

    private static void sizeIsCut() {
        HoleFills x = withHoles(20, BATH);
        for (int size = 0; size <= 99; size++) {
            x.set(0, 2, size);
            due("6: a twentieth of " + size, x.of(0, 6), 3 + (size - size % 20) / 20);
            due("6: a tenth of " + size, x.of(0, 7), 8 + (size - size % 10) / 10);
        }
        int[] least = {5, 8, 2, 5, 6, 3};
        int[] most = {14, 17, 2, 14, 15, 3};
        for (int kind = 0; kind < 6; kind++) {
            x.turn(0, kind);
            x.set(0, 2, 0);
            due("6: costs, of size 0", x.of(0, 7), least[kind]);
            x.set(0, 2, 9);
            due("6: costs, of size 9", x.of(0, 7), least[kind]);
            x.set(0, 2, 99);
            due("6: costs, of size 99", x.of(0, 7), most[kind]);
            due("6: holds cold", x.of(0, 8), HOLDS_COLD[kind]);
            due("6: holds hot", x.of(0, 9), HOLDS_HOT[kind]);
        }
    }

    private static void duckGrowsNought() {
        HoleFills x = withHoles(20, DUCK);
        x.street(0, 0, 0);
        x.set(0, 2, 0);
        due("6: 0 at least", x.of(0, 6), 0);
        x.set(0, 2, 19);
        due("6: 0 still", x.of(0, 6), 0);
        x.set(0, 2, 20);
        due("6: and 1", x.of(0, 6), 1);
        x.set(0, 2, 19);
        x.street(0, 0, 9);
        due("6: 0 still", x.of(0, 6), 0);
        x.weeks(10);
        due("12: it stays so", x.of(0, 2), 19);
    }

    private static void sizeIsHeld() {
        HoleFills x = withHoles(20, HOLE, BATH, CRACK, JOINT, DUCK, SEAM);
        int[] grows = {3, 7, 1, 3, 6, 1};
        for (int kind = 0; kind < 6; kind++) {
            x.set(kind, 2, 99 - grows[kind]);
            due("6: grows", x.of(kind, 6), grows[kind]);
        }
        x.weeks(1);
        for (int kind = 0; kind < 6; kind++) {
            due("12: just 99", x.of(kind, 2), 99);
        }
        x.weeks(1);
        for (int kind = 0; kind < 6; kind++) {
            due("12: 99 at most", x.of(kind, 2), 99);
            x.set(kind, 2, 98);
        }
        due("14: 99 at most", x.on(1, 1, 0), 99);
        x.street(0, 0, 99);
        due("14: 99 at most", x.on(0, 104, 0), 99);
        x.weeks(1);
        for (int kind = 0; kind < 6; kind++) {
            due("12: 99 at most", x.of(kind, 2), 99);
        }
        due("13: worse of six", x.now(7), 6 * 99);
        x.hole(HOLE, 5);
        x.hole(HOLE, 5);
        x.set(6, 2, 99);
        x.set(7, 2, 99);
        due("13: the most that worse is", x.now(7), 792);
        due("15: the most that worse is", x.worse(104), 792);
    }

    private static void fillsJustHold() {
        for (int kind = 0; kind < 6; kind++) {
            for (int fill = 1; fill <= 2; fill++) {
                int holds = fill == 1 ? HOLDS_COLD[kind] : HOLDS_HOT[kind];
                HoleFills x = withHoles(20, kind);
                x.set(0, 3, fill);
                due("18: breaks", x.breaks(0), holds + 1);
                due("14: holds", x.on(0, holds, 1), fill);
                due("14: holds no more", x.on(0, holds + 1, 1), 0);
                x.set(0, 4, holds - 1);
                due("12: just holds", x.weeks(1), 0);
                due("12: its age", x.of(0, 4), holds);
                due("12: just breaks", x.weeks(1), 1);
                due("12: its age", x.of(0, 4), holds + 1);
                due("12: it did not grow", x.of(0, 2), 5);
                x.weeks(1);
                due("12: its age stays", x.of(0, 4), holds + 1);
                due("12: it grows now", x.of(0, 2) > 5 ? 1 : 0, 1);
            }
        }
    }

    private static void ageIsHeld() {
        for (int fill = 1; fill <= 2; fill++) {
            HoleFills x = withHoles(20, SEAM);
            x.set(0, 3, fill);
            x.set(0, 4, 997);
            due("12: broken", x.weeks(1), 1);
            due("12: 998", x.of(0, 4), 998);
            x.set(0, 3, fill);
            x.weeks(1);
            due("12: 999", x.of(0, 4), 999);
            x.set(0, 3, fill);
            due("18: in a week", x.breaks(0), 1);
            due("12: broken too", x.weeks(1), 1);
            due("12: held to 999", x.of(0, 4), 999);
            x.weeks(60);
            due("12: held to 999", x.of(0, 4), 999);
        }
    }

    private static void brokenOnesDoNotGrow() {
        HoleFills x = withHoles(20, HOLE, HOLE);
        x.set(0, 3, 1);
        x.set(0, 4, 3);
        due("12: both without a fill", x.weeks(1), 3);
        due("12: the one that broke", x.of(0, 2), 5);
        due("12: the one that had none", x.of(1, 2), 8);
        x.town(2, 1);
        x.set(0, 5, 1);
        due("12: filled as the week began", x.weeks(1), 2);
        due("12: does not grow", x.of(0, 2), 5);
        due("12: of age 1 then", x.of(0, 4), 1);
    }

    private static void yearlyBudget() {
        HoleFills x = idleAt(0);
        x.town(1, 99999);
        for (int week = 1; week <= 117; week++) {
            x.town(0, week);
            x.weeks(1);
            due("12: the budget in week " + week, x.now(1), week % 52 == 12 ? 99999 : week);
        }
        x.town(1, 0);
        x.weeks(51);
        due("12: a yearly budget of 0", x.now(1), 0);
        x = idleAt(12);
        x.town(0, 9);
        x.weeks(51);
        due("12: not in week 63", x.now(1), 9);
        x.weeks(1);
        due("12: in week 64", x.now(1), 500);
        x = idleAt(52 * YEARS + 11);
        x.town(0, 9);
        x.weeks(1);
        due("12: in the last year's 12", x.now(1), 500);
        x = withHoles(11, CRACK);
        x.town(0, 1);
        x.town(1, 2);
        x.town(2, 6);
        due("12: too late for this week", x.weeks(1), 1);
        due("12: in time for the next", x.weeks(1), 0);
        due("12: it is gone", x.now(1), 0);
    }

    private static void menInNumber() {
        for (int men = 0; men <= 6; men++) {
            HoleFills x = withHoles(20, HOLE, HOLE, HOLE, HOLE, HOLE, HOLE, HOLE, HOLE);
            x.town(2, men);
            due("12: so many are left by " + men, x.weeks(1), 255 - ((1 << men) - 1));
            due("38: so many have a fill", x.count(2), men);
            due("12: so much is spent", x.now(5), 5 * men);
        }
        HoleFills x = withHoles(20, HOLE);
        x.town(2, 6);
        due("12: more men than holes", x.weeks(1), 0);
        due("12: it is filled once", x.now(5), 5);
        x = withHoles(20);
        x.town(2, 6);
        due("12: men without holes", x.weeks(60), 0);
        due("12: spend nothing", x.now(5), 0);
    }

    private static void moneyJustEnough() {
        for (int hot = 0; hot <= 1; hot++) {
            for (int kind = 0; kind < 6; kind++) {
                HoleFills x = withHoles(20, kind);
                x.town(3, hot);
                x.town(2, 1);
                int price = x.of(0, 7) * (hot == 1 ? 11 : 1);
                x.town(0, price - 1);
                due("11: one too little", x.next(), NONE);
                due("10: one too little", x.fill(0, hot), STATE);
                due("16: one too little", x.cost(1), 0);
                due("12: one too little", x.weeks(1), 1);
                x.set(0, 2, 5);
                x.town(0, price);
                due("11: just enough", x.next(), 0);
                due("16: just enough", x.cost(1), price);
                due("12: just enough", x.weeks(1), 0);
                due("12: nothing is left", x.now(1), 0);
                due("12: spent", x.now(5), price);
                due("12: its fill", x.of(0, 3), hot + 1);
                x.set(0, 3, 0);
                x.town(0, price);
                due("10: just enough", x.fill(0, hot), price);
                due("10: nothing is left", x.now(1), 0);
                due("10: spent", x.now(5), 2 * price);
            }
        }
    }

    private static void moneyRunsOut() {
        HoleFills x = withHoles(20, HOLE, BATH, CRACK, HOLE);
        x.town(2, 6);
        x.set(0, 2, 50);
        x.set(1, 2, 40);
        x.set(2, 2, 4);
        // 10 for the first and 12 for the bath leave 4: the last hole would be 5, the crack is 2.
        x.town(0, 26);
        due("12: the bath, then the crack", x.weeks(1), 8);
        due("12: what is left", x.now(1), 26 - 10 - 12 - 2);
        x = withHoles(20, HOLE, BATH, CRACK, HOLE);
        x.town(2, 6);
        x.set(0, 2, 50);
        x.set(1, 2, 40);
        x.set(2, 2, 4);
        // 11 are left behind the first: one too little for the bath.
        x.town(0, 21);
        due("12: not the bath", x.weeks(1), 2);
        due("12: what is left", x.now(1), 21 - 10 - 5 - 2);
        x.town(0, 0);
        x.weeks(2);
        due("12: 0 stays 0", x.now(1), 0);
    }

    /** Which of two holes comes first, told by kind, rung, size. */
    private static int first(int[] a, int[] b) {
        HoleFills x = withHoles(20, a[0], b[0]);
        int[][] both = {a, b};
        for (int h = 0; h < 2; h++) {
            x.set(h, 5, both[h][1]);
            x.set(h, 2, both[h][2]);
        }
        return x.next();
    }

    private static void whoComesFirst() {
        // From last to first, each by the least that sets it ahead.
        int[][] order = {{HOLE, 0, 98}, {SEAM, 0, 99}, {BATH, 1, 0}, {CRACK, 1, 1}, {DUCK, 0, 0}, {DUCK, 0, 1},
            {DUCK, 0, 99}, {DUCK, 1, 0}, {DUCK, 1, 99}};
        for (int i = 0; i < order.length; i++) {
            due("11: the lesser number", first(order[i], order[i]), 0);
            for (int j = 0; j < i; j++) {
                due("11: " + i + " ahead of " + j, first(order[i], order[j]), 0);
                due("11: " + j + " behind " + i, first(order[j], order[i]), 1);
            }
        }
        for (int kind = 0; kind < 6; kind++) {
            if (kind != DUCK) {
                due("11: no kind but a duck counts", first(new int[] {kind, 0, 5}, new int[] {HOLE, 0, 5}), 0);
                due("11: no kind but a duck counts", first(new int[] {HOLE, 1, 5}, new int[] {kind, 1, 5}), 0);
            }
        }
        HoleFills x = withHoles(20, HOLE, HOLE, HOLE, HOLE, HOLE, HOLE, HOLE, HOLE);
        due("11: the least of eight", x.next(), 0);
        x.set(7, 2, 6);
        due("11: the last of eight", x.next(), 7);
        due("11: whether there are men or not", x.now(3), 0);
    }

    private static void fillTakesWhatItCosts() {
        HoleFills x = withHoles(20, BATH);
        x.set(0, 2, 99);
        x.set(0, 4, 999);
        x.town(0, 99999);
        due("10: the dearest", x.fill(0, 1), 187);
        due("10: what is left", x.now(1), 99812);
        due("10: its age", x.of(0, 4), 0);
        due("10: its size", x.of(0, 2), 99);
        x.town(0, 0);
        due("10: it has a fill, whatever the budget", x.fill(0, 0), STATE);
        x.set(0, 3, 0);
        due("10: a budget of 0", x.fill(0, 0), STATE);
        x = withHoles(20, CRACK);
        x.street(0, 1, 1);
        x.town(0, 2);
        due("10: the cheapest, in a street let go", x.fill(0, 0), 2);
    }

    private static void onAtItsEnds() {
        HoleFills x = withHoles(20, CRACK, CRACK);
        x.set(0, 2, 0);
        x.set(1, 3, 2);
        due("14: now", x.on(0, 0, 0), 0);
        due("14: a week on", x.on(0, 1, 0), 1);
        due("14: 99 weeks on", x.on(0, 99, 0), 99);
        due("14: 104 weeks on", x.on(0, 104, 0), 99);
        due("14: now", x.on(1, 0, 1), 2);
        due("14: 104 weeks on", x.on(1, 104, 1), 0);
        due("14: it broke in the 46th", x.on(1, 46, 0), 5);
        due("14: and grew since", x.on(1, 104, 0), 5 + 58);
        due("15: now", x.worse(0), 0);
        due("15: 104 weeks on", x.worse(104), 99 + 63);
        due("16: now", x.cost(0), 0);
        due("16: 104 weeks on", x.cost(104), 0);
        due("17: now", x.filled(1), 0);
        due("18: now", x.breaks(0), 0);
        due("17: without men", x.filled(0), NONE);
        x.town(2, 1);
        due("17: a week on", x.filled(0), 1);
        due("16: a week on", x.cost(1), 2);
        due("25: now", x.worst(0), 0);
    }

    private static void onBeyondTheLastWeek() {
        HoleFills x = withHoles(9999, HOLE);
        x.set(0, 2, 0);
        // Week 9999 is 15 of its year: no frost for 31 weeks.
        due("14: a week on", x.on(0, 1, 0), 3);
        due("14: 31 weeks on", x.on(0, 31, 0), 93);
        due("14: 32 weeks on", x.on(0, 32, 0), 98);
        due("15: 104 weeks on", x.worse(104), 99);
        due("25: 104 weeks on", x.worst(104), 0);
        due("19: 104 weeks on", x.how(104), 0);
        x.sheet(0, 8, 40);
        due("33: forty", x.book(0, 0), 40);
        due("33: the last", x.write(0, 39, 0), 99);
        x.town(0, 0);
        x.town(2, 1);
        due("17: with the budget of week 10048", x.filled(0), 50);
        due("13: all that time", x.now(0), 9999);
        due("12: and no further", x.weeks(1), STATE);
    }

    private static void howAtItsEdges() {
        HoleFills x = withHoles(20, HOLE);
        due("19: both alike, without men", x.how(1), 0);
        due("19: both alike, without men", x.how(104), 0);
        x.town(2, 1);
        due("19: both alike", x.how(1), 0);
        due("19: both hold", x.how(3), 0);
        due("19: cold has broken", x.how(4), 1);
        x.town(0, 54);
        x.town(3, 1);
        due("19: hot is too dear by 1", x.how(1), 0);
        x.town(3, 0);
        due("19: hot is too dear by 1", x.how(4), 0);
        x.town(0, 55);
        due("19: hot is just to be had", x.how(4), 1);
        due("19: hot holds 40", x.how(40), 1);
        x.town(1, 0);
        // Hot, it has broken in week 60; cold, it is filled for the eleventh time then, and breaks in week 63.
        due("19: hot has broken too", x.how(41), 0);
        due("19: both are of 99", x.how(104), 0);
        x = withHoles(20, SEAM);
        x.town(0, 33);
        x.town(1, 0);
        x.town(2, 1);
        due("19: both hold", x.how(16), 0);
        due("19: cold has broken", x.how(17), 1);
        // Hot, it grows from week 111 on; cold, from 71 on, since there is no money any more.
        due("19: 104 weeks on", x.how(104), 1);
    }

    private static void ringAtItsEdges() {
        HoleFills x = withHoles(20, HOLE);
        due("20: one", x.ring(1), 0);
        due("20: one", x.ring(52), 0);
        x.set(0, 5, 1);
        due("20: rung for already", x.ring(1), NONE);
        x = withHoles(20, HOLE, HOLE, HOLE, HOLE, HOLE, HOLE, HOLE, HOLE);
        due("20: eight alike", x.ring(1), 0);
        due("20: eight alike", x.ring(52), 0);
        for (int h = 0; h < 7; h++) {
            x.set(h, 5, 1);
        }
        due("20: the eighth alone is not", x.ring(1), 7);
        due("20: the eighth alone is not", x.ring(52), 7);
        x.set(0, 5, 0);
        due("20: two alike", x.ring(52), 0);
        x.town(2, 1);
        x.street(5, 0, 99);
        x.set(7, 1, 5);
        for (int h = 1; h < 7; h++) {
            x.set(h, 3, 2);
        }
        due("20: the one that would grow most", x.ring(1), 7);
        x.set(0, 2, 15);
        x.set(7, 2, 4);
        // With 0 filled 4 and 10 are left, with 7 filled 15 and 3.
        due("20: the one that leaves less", x.ring(1), 0);
    }

    private static void menAtTheirEdges() {
        HoleFills x = withHoles(20, CRACK, CRACK, CRACK, CRACK, CRACK, CRACK, CRACK);
        // Each is of 6 in a week.
        due("21: 0, just so much", x.men(1, 42), 0);
        due("21: 1, one less", x.men(1, 41), 1);
        due("21: 5, just so much", x.men(1, 12), 5);
        due("21: 6, one less", x.men(1, 11), 6);
        due("21: 6, just so much", x.men(1, 6), 6);
        due("21: none, one less", x.men(1, 5), NONE);
        due("21: none", x.men(1, 0), NONE);
        due("21: all in two weeks", x.men(2, 0), 4);
        due("21: the most", x.men(1, 999), 0);
        x.town(2, 6);
        due("21: whoever there is", x.men(1, 41), 1);
        due("21: 52 weeks on", x.men(52, 7 * 57), 0);
        due("21: 52 weeks on", x.men(52, 7 * 57 - 1), 1);
    }

    private static void budgetAtItsEdges() {
        HoleFills x = withHoles(20, CRACK);
        x.town(2, 1);
        due("22: nothing, just so much", x.budget(1, 6), 0);
        due("22: one less", x.budget(1, 5), 2);
        due("22: none left", x.budget(1, 0), 2);
        x.town(0, 99999);
        due("22: whatever there is", x.budget(1, 0), 2);
        x.town(2, 0);
        due("22: nobody to spend it", x.budget(20, 0), NONE);
        due("22: the most", x.budget(20, 999), 0);
        x.town(2, 6);
        x.town(3, 1);
        due("22: hot", x.budget(20, 0), 22);
        x = withHoles(0, SEAM);
        x.town(2, 1);
        due("22: twenty weeks, over the yearly one", x.budget(20, 0), 0);
        due("22: twelve weeks", x.budget(12, 0), 3);
        due("22: thirteen weeks", x.budget(13, 0), 0);
        // The crack is of 6 in a week, a bath of 99 still.
        x = withHoles(20, BATH, BATH, BATH, BATH, BATH, CRACK);
        x.town(2, 6);
        x.town(3, 1);
        for (int h = 0; h < 5; h++) {
            x.set(h, 2, 99);
        }
        due("22: four of 187 and one of 22", x.budget(1, 99), 770);
        due("22: five of 187", x.budget(1, 6), 935);
        due("22: five of 187 and one of 22", x.budget(1, 5), 957);
    }

    private static void kindAtItsEdges() {
        HoleFills x = withHoles(20, JOINT);
        x.set(0, 2, 99);
        due("23: all are of 99", x.kind(0, 1), HOLE);
        due("23: all are of 99", x.kind(0, 52), HOLE);
        x.set(0, 2, 98);
        due("23: all are of 99", x.kind(0, 1), HOLE);
        x.set(0, 2, 97);
        due("23: a crack is of 98, the least that is not held", x.kind(0, 1), CRACK);
        x.set(0, 2, 5);
        due("23: a crack and a seam alike", x.kind(0, 1), CRACK);
        x = withHoles(45, JOINT);
        due("23: no frost as yet", x.kind(0, 1), CRACK);
        x.street(0, 0, 0);
        due("23: a duck does not grow", x.kind(0, 1), DUCK);
        due("23: in frost it does", x.kind(0, 2), CRACK);
        x = withHoles(20, HOLE, HOLE);
        x.town(2, 1);
        x.set(0, 2, 50);
        due("23: a duck is filled first", x.kind(1, 1), DUCK);
    }

    private static void letAtItsEdges() {
        HoleFills x = withHoles(20);
        x.town(2, 1);
        for (int street = 0; street < 6; street++) {
            x.hole(HOLE, street);
            x.set(street, 2, 10);
        }
        x.set(5, 2, 5);
        x.street(5, 0, 99);
        // Filled, street 5's leaves 5 * 13, else 4 * 13 and 15 are left.
        due("24: all but street 5", x.let(1), 31);
        x.street(5, 1, 1);
        due("24: whatever is let go", x.let(1), 31);
        x.set(5, 2, 7);
        x.street(5, 0, 49);
        // And now 5 * 13, else 4 * 13 and 12.
        due("24: none", x.let(1), 0);
        x = withHoles(20);
        x.town(2, 1);
        x.hole(DUCK, 5);
        x.hole(HOLE, 0);
        x.street(0, 0, 99);
        due("24: street 5 alone", x.let(1), 32);
        x.town(2, 0);
        due("24: nobody to fill", x.let(26), 0);
        x.town(2, 6);
        due("24: enough for all", x.let(1), 0);

        // Money for one fill, which breaks in the fourth week: only in street 4 it keeps a hole from growing.
        x = withHoles(20, HOLE, HOLE, HOLE, HOLE, HOLE, HOLE, HOLE, HOLE);
        for (int h = 0; h < 8; h++) {
            x.set(h, 2, 99);
        }
        x.set(7, 1, 4);
        x.set(7, 2, 98);
        x.town(0, 14);
        x.town(2, 1);
        due("24: 792, with none let go", x.worse(4), 792);
        due("24: 791, with street 0 let go", x.let(4), 1);
        due("24: 693, whichever is filled", x.let(3), 0);
    }

    private static void worstAtItsEdges() {
        HoleFills x = withHoles(20);
        due("25: none", x.worst(0), 0);
        x.hole(CRACK, 5);
        x.set(0, 2, 0);
        due("25: of size 0", x.worst(0), 0);
        due("25: of size 1", x.worst(1), 5);
        x.hole(CRACK, 4);
        x.set(1, 2, 0);
        due("25: of both the least", x.worst(1), 4);
        x.hole(CRACK, 5);
        x.set(2, 2, 99);
        x.set(2, 3, 2);
        due("25: not those with a fill", x.worst(1), 4);
        due("25: nor in 45", x.worst(45), 4);
        due("25: until it breaks", x.worst(46), 5);
        due("25: 104 weeks on", x.worst(104), 5);
        for (int h = 3; h < 8; h++) {
            x.hole(HOLE, 0);
            x.set(h, 2, 99);
        }
        due("25: five together", x.worst(104), 0);
    }

    private static void eachStreetIsWorst() {
        for (int street = 0; street < 6; street++) {
            HoleFills x = withHoles(20);
            for (int s = 0; s < 6; s++) {
                x.hole(HOLE, s);
            }
            due("25: all alike", x.worst(104), 0);
            x.set(street, 2, 6);
            due("25: this one", x.worst(0), street);
            due("25: this one", x.worst(1), street);
            x.set(street, 2, 4);
            due("25: not this one", x.worst(0), street == 0 ? 1 : 0);
        }
    }

    private static void imagesInNumber() {
        HoleFills x = new HoleFills();
        due("35: of no holes", x.image(), 1);
        for (int h = 0; h < 8; h++) {
            x.hole(h % 6, h % 6);
        }
        due("36: no holes", x.undo(), 0);
        due("36: none then", x.of(0, 0), BEYOND);
        due("5: from 0 on", x.hole(DUCK, 3), 0);
        int[] first = {DUCK, 3, 5, 0, 0, 0};
        for (int what = 0; what <= 5; what++) {
            due("5: as a new one", x.of(0, what), first[what]);
        }
        for (int h = 1; h < 8; h++) {
            x.hole(BATH, 5);
        }
        due("35: of eight", x.image(), 1);
        x.weeks(60);
        due("36: eight", x.undo(), 8);
        due("36: week 0", x.now(0), 0);
        due("36: again", x.undo(), 8);
        due("37: torn", x.tear(), 1);
        due("36: nothing kept", x.undo(), NONE);
        due("37: nothing kept", x.tear(), 0);
        due("38: eight still", x.count(0), 8);
    }

    /** No 512 calls spend so much, so what is spent is set from inside. */
    private static void spentIsHeld() throws ReflectiveOperationException {
        HoleFills x = withHoles(20, HOLE, HOLE, HOLE);
        Field here = HoleFills.class.getDeclaredField("here");
        here.setAccessible(true);
        Object town = here.get(x);
        Field spent = town.getClass().getDeclaredField("spent");
        spent.setAccessible(true);
        spent.setInt(town, 9999994);
        x.fill(0, 0);
        due("10: just 9999999", x.now(5), 9999999);
        due("10: it costs as much", x.fill(1, 0), 5);
        due("10: held to 9999999", x.now(5), 9999999);
        due("10: and paid", x.now(1), 490);
        spent.setInt(town, 9999997);
        x.town(2, 1);
        due("16: spent more, as it is held", x.cost(1), 2);
        x.weeks(1);
        due("12: held to 9999999", x.now(5), 9999999);
        due("12: and paid", x.now(1), 485);
    }
}
