/** Each sentence of promises 13 to 25 that names an edge: at it, and just beyond; and that nothing stays. */
public final class EdgeAskTest {
    private static final Due DUE = new Due();
    private static final int NOTHING = -2000000000;
    private static final int MOST = Integer.MAX_VALUE;
    private static final int LEAST = Integer.MIN_VALUE;
    private static final int[] NO_ROWS = {-1, 2, 12, MOST, LEAST};
    private static final int[] NO_HOURS = {-1, 201, MOST, LEAST};
    private static final String THINGS = "thing easy 3;thing easy 1;thing easy 2;thing easy 0;";
    // 10 a READING and -1 an hour for each place: n READINGS, h hours: 10 n - h
    private static final String STEADY = THINGS + "row 0 1 2;row 1 0 3;hold 100;lean place 100;grow place by 10;fall place by 1;";
    // THING 1 goes by next alone: 20 a READING; a READING of the other ROW takes 5 of it
    private static final String MIXED = "thing easy 9;thing easy 0;thing easy 0;row 0 1;row 0 2;hold 90;lean next 100;lean place 10;"
        + "grow next by 20;grow place by easy times 200;mix next by 5;";

    public static void main(String[] args) {
        needs();
        needsOfForty();
        fresh();
        freshOfForty();
        savingRefused();
        savingOfNone();
        savingCut();
        after();
        lasts();
        gone();
        goneOfFortyOne();
        without();
        betweenRefused();
        betweenHours();
        betweenOfOthers();
        betweenOfNone();
        eveningRefused();
        eveningBounds();
        eveningOfNone();
        when();
        whenBounds();
        must();
        verse();
        nearRefused();
        nearBounds();
        DUE.end("EdgeAskTest");
    }

    /** Row 0 has the STRENGTH in all its places, at hour 0 or a few later. */
    private static NonsenseRows steady(int strength) {
        NonsenseRows x = Due.told(STEADY);
        int readings = (strength + 9) / 10;
        if (readings > 0) {
            x.read(0, readings);
        }
        x.waits(10 * readings - strength);
        DUE.is("strength(3, 0, 0)", x.strength(3, 0, 0), strength);
        return x;
    }

    private static void needs() {
        DUE.about("13: -2: there is none such");
        NonsenseRows x = steady(40);
        for (int row : NO_ROWS) {
            DUE.refused(x, "needs(" + row + ")", () -> x.needs(row), -2);
        }
        DUE.onPaper(x, "needs(0)", () -> x.needs(0), 7);
        DUE.onPaper(x, "needs(1), the last ROW", () -> x.needs(1), 11);
        DUE.is("needs(0) of 500", steady(500).needs(0), 2);
        DUE.is("needs(0) of 90", steady(90).needs(0), 2);
        DUE.is("needs(0) of 89", steady(89).needs(0), 3);
    }

    private static void needsOfForty() {
        DUE.about("13: NONE: forty are not enough");
        NonsenseRows x = Due.told(THINGS + "row 0 1;hold 400;lean place 100;grow place by 10;");
        DUE.onPaper(x, "needs(0) of 41", () -> x.needs(0), -1);
        x.read(0, 1);
        DUE.onPaper(x, "needs(0) of 40", () -> x.needs(0), 40);
        x.read(0, 1);
        DUE.onPaper(x, "needs(0) of 39", () -> x.needs(0), 39);
    }

    private static void fresh() {
        DUE.about("14: -2 likewise; a HEAD as at first, at this hour");
        NonsenseRows x = steady(40);
        for (int row : NO_ROWS) {
            DUE.refused(x, "fresh(" + row + ")", () -> x.fresh(row), -2);
        }
        DUE.onPaper(x, "fresh(0)", () -> x.fresh(0), 11);
        DUE.onPaper(x, "fresh(1), the last ROW", () -> x.fresh(1), 11);
        NonsenseRows y = Due.told(THINGS + "row 0 1;hold 46;lean place 100;grow place by hour minus tired;");
        y.waits(23);
        y.read(0, 10);
        // 23 22 21: tired is 0 at first
        DUE.onPaper(y, "fresh(0) at hour 23", () -> y.fresh(0), 4);
        y.waits(1);
        DUE.onPaper(y, "fresh(0) at hour 24, which is 0", () -> y.fresh(0), -1);
    }

    private static void freshOfForty() {
        DUE.about("14: NONE likewise");
        for (int hold : new int[] {389, 390, 391, 400}) {
            NonsenseRows x = Due.told(THINGS + "row 0 1;hold " + hold + ";lean place 100;grow place by 10;");
            x.read(0, 45);
            DUE.onPaper(x, "fresh(0) with hold " + hold, () -> x.fresh(0), hold > 390 ? -1 : 40);
        }
    }

    private static void savingRefused() {
        DUE.about("15: NOTHING: there is none such");
        NonsenseRows x = steady(40);
        for (int row : NO_ROWS) {
            DUE.refused(x, "saving(" + row + ")", () -> x.saving(row), NOTHING);
        }
        DUE.onPaper(x, "saving(1), the last ROW", () -> x.saving(1), 0);
    }

    private static void savingOfNone() {
        DUE.about("15: NOTHING: either is NONE");
        NonsenseRows x = Due.told(THINGS + "row 0 1;hold 400;lean place 100;grow place by 10;");
        DUE.onPaper(x, "saving(0), both are NONE", () -> x.saving(0), NOTHING);
        x.read(0, 5);
        DUE.onPaper(x, "saving(0), fresh() is NONE", () -> x.saving(0), NOTHING);
        NonsenseRows z = Due.told(THINGS + "row 0 1;row 2 3;hold 100;lean place 100;grow place by 20 minus tired;");
        z.read(1, 8);
        DUE.onPaper(z, "saving(0), needs() is NONE", () -> z.saving(0), NOTHING);
        z.waits(1);
        DUE.onPaper(z, "saving(0), neither is", () -> z.saving(0), 0);
    }

    private static void savingCut() {
        DUE.about("15: thousandths .. (below 0: more), cut towards 0");
        // 2 of 11: 9 in 11 are 818.18; 10 of 11: 1 in 11 is 90.9
        DUE.is("saving(0) of 500", steady(500).saving(0), 818);
        DUE.is("saving(0) of 10", steady(10).saving(0), 90);
        DUE.is("saving(0) of 9", steady(9).saving(0), 0);
        NonsenseRows x = Due.told(THINGS + "row 0 1;row 2 3;hold 100;lean place 100;grow place by 20 minus tired;");
        x.read(1, 3);
        // seven, and nine: 2 in 7 are 285.7 more
        DUE.onPaper(x, "saving(0) below 0", () -> x.saving(0), -285);
    }

    private static void after() {
        DUE.about("16: hours (0 .. 200); -2: there are none such");
        NonsenseRows x = steady(289);
        for (int row : NO_ROWS) {
            DUE.refused(x, "after(" + row + ", 0)", () -> x.after(row, 0), -2);
        }
        for (int hours : NO_HOURS) {
            DUE.refused(x, "after(0, " + hours + ")", () -> x.after(0, hours), -2);
        }
        DUE.onPaper(x, "after(0, 0)", () -> x.after(0, 0), 2);
        DUE.onPaper(x, "after(0, 199)", () -> x.after(0, 199), 2);
        DUE.onPaper(x, "after(0, 200)", () -> x.after(0, 200), 3);
        DUE.onPaper(x, "after(1, 0), the last ROW", () -> x.after(1, 0), 11);
        NonsenseRows y = Due.told(THINGS + "row 0 1;row 2 3;hold 39;lean place 100;grow place by 1 minus tired over 2;");
        y.read(1, 2);
        DUE.onPaper(y, "after(0, 0), tired", () -> y.after(0, 0), -1);
        NonsenseRows z = Due.told(THINGS + "row 0 1;row 2 3;hold 20;lean place 100;grow place by 20 minus tired times 5;");
        z.read(1, 2);
        DUE.onPaper(z, "after(0, 0), tired 2: 10 5", () -> z.after(0, 0), -1);
        DUE.onPaper(z, "after(0, 1), no longer", () -> z.after(0, 1), 2);
    }

    private static void lasts() {
        DUE.about("17: the least hours (0 .. 200) behind which a ROW has a SLIP; NONE: none; -2: there is none such");
        int[][] due = {{0, 0}, {99, 0}, {100, 1}, {101, 2}, {298, 199}, {299, 200}, {300, -1}, {301, -1}};
        for (int[] pair : due) {
            NonsenseRows x = steady(pair[0]);
            DUE.onPaper(x, "lasts(0) of " + pair[0], () -> x.lasts(0), pair[1]);
        }
        NonsenseRows x = steady(100);
        for (int row : NO_ROWS) {
            DUE.refused(x, "lasts(" + row + ")", () -> x.lasts(row), -2);
        }
        DUE.onPaper(x, "lasts(1), the last ROW", () -> x.lasts(1), 0);
        NonsenseRows y = Due.told(THINGS + "row 0 1;row 2 3;");
        DUE.onPaper(y, "lasts(0) with hold 0", () -> y.lasts(0), -1);
    }

    private static void gone() {
        DUE.about("18: the least hours behind which needs() is not below fresh() at that hour; NONE: none up to 60; -2 likewise");
        int[][] due = {{0, 0}, {9, 0}, {10, 1}, {11, 2}, {68, 59}, {69, 60}, {70, -1}, {71, -1}};
        for (int[] pair : due) {
            NonsenseRows x = steady(pair[0]);
            DUE.onPaper(x, "gone(0) of " + pair[0], () -> x.gone(0), pair[1]);
        }
        NonsenseRows x = steady(40);
        for (int row : NO_ROWS) {
            DUE.refused(x, "gone(" + row + ")", () -> x.gone(row), -2);
        }
        DUE.onPaper(x, "gone(1), the last ROW", () -> x.gone(1), 0);
        // one READING an hour 0 .. 10 ahead of hour 23 is worth 23; at hour 24 nothing can be LEARNT
        NonsenseRows y = Due.told(THINGS + "row 0 1;hold 46;lean place 100;grow place by hour;");
        y.waits(23);
        y.read(0, 1);
        DUE.is("needs(0)", y.needs(0), 2);
        DUE.is("fresh(0)", y.fresh(0), 3);
        DUE.onPaper(y, "gone(0): NONE is not below NONE at hour 24", () -> y.gone(0), 1);
    }

    private static void goneOfFortyOne() {
        DUE.about("18: NONE counts as 41");
        NonsenseRows x = Due.told(THINGS + "row 0 1;row 2 3;hold 400;lean place 100;grow place by 10;fall place by 1;");
        DUE.onPaper(x, "gone(0), NONE and NONE", () -> x.gone(0), 0);
        x.read(0, 1);
        DUE.onPaper(x, "gone(0), 40 and NONE", () -> x.gone(0), 1);
        NonsenseRows y = Due.told(THINGS + "row 0 1;row 2 3;hold 100;lean place 100;grow place by 20 minus tired;");
        y.read(1, 8);
        DUE.onPaper(y, "gone(0), NONE and 7", () -> y.gone(0), 0);
    }

    private static void without() {
        DUE.about("19: a sort of LINK; -2: there are none such");
        NonsenseRows x = Due.told(THINGS + "row 0 1;row 1 0;hold 100;lean next 100;lean back 100;lean off 50;lean place 100;grow next by 30;"
            + "grow back by 20;grow place by 50;");
        for (int row : NO_ROWS) {
            DUE.refused(x, "without(" + row + ", 0)", () -> x.without(row, 0), -2);
        }
        for (int sort : new int[] {-1, 4, MOST, LEAST}) {
            DUE.refused(x, "without(0, " + sort + ")", () -> x.without(0, sort), -2);
        }
        DUE.onPaper(x, "without(0, 0)", () -> x.without(0, 0), 3);
        DUE.onPaper(x, "without(0, 3)", () -> x.without(0, 3), -1);
        DUE.onPaper(x, "without(1, 2), the last ROW", () -> x.without(1, 2), 3);
        DUE.onPaper(x, "needs(0)", () -> x.needs(0), 3);
        x.without(0, 3);
        DUE.is("needs(0) counts all again", x.needs(0), 3);
        x.without(0, 3);
        DUE.is("fresh(0) counts all again", x.fresh(0), 3);
        x.without(0, 3);
        DUE.is("left(0, 1, 1, 1) counts all again", x.left(0, 1, 1, 1), 130);
        NonsenseRows z = Due.told("thing easy 9;thing easy 1;row 0 1;hold 1;lean place 99;grow place by easy;");
        DUE.is("without(0, 0): 99 in 100 are none", z.without(0, 0), 3);
        // THING 1 in place 1 goes by back 0, 1 alone
        NonsenseRows y = Due.told("thing easy 9;thing easy 0;row 0 1;row 1 0;hold 100;lean back 100;lean place 50;grow back by 50;"
            + "grow place by easy times 50;");
        y.read(1, 3);
        DUE.onPaper(y, "needs(0)", () -> y.needs(0), 2);
        DUE.onPaper(y, "without(0, 1)", () -> y.without(0, 1), -1);
        DUE.onPaper(y, "without(0, 0)", () -> y.without(0, 0), 2);
    }

    private static void betweenRefused() {
        DUE.about("20: NOTHING: there are none such (or one and the same)");
        NonsenseRows x = Due.told(MIXED);
        x.read(0, 4);
        for (int row : NO_ROWS) {
            DUE.refused(x, "between(" + row + ", 0, 1)", () -> x.between(row, 0, 1), NOTHING);
            DUE.refused(x, "between(0, " + row + ", 1)", () -> x.between(0, row, 1), NOTHING);
            DUE.refused(x, "between(" + row + ", " + row + ", 1)", () -> x.between(row, row, 1), NOTHING);
        }
        DUE.refused(x, "between(0, 0, 1)", () -> x.between(0, 0, 1), NOTHING);
        DUE.refused(x, "between(1, 1, 1)", () -> x.between(1, 1, 1), NOTHING);
    }

    private static void betweenHours() {
        DUE.about("20: some hours (1 .. 200)");
        NonsenseRows x = Due.told(MIXED);
        x.read(0, 4);
        // the other ROW takes six: 80 less 30 is 50: 70, 90, once more
        DUE.onPaper(x, "between(0, 1, 1)", () -> x.between(0, 1, 1), 1);
        DUE.onPaper(x, "between(0, 1, 200)", () -> x.between(0, 1, 200), 1);
        DUE.refused(x, "between(0, 1, 0)", () -> x.between(0, 1, 0), NOTHING);
        for (int hours : NO_HOURS) {
            DUE.refused(x, "between(0, 1, " + hours + ")", () -> x.between(0, 1, hours), NOTHING);
        }
        // the other ROW has what is wanting: two instead of eleven
        NonsenseRows y = Due.told(THINGS + "row 0 1;row 0 2;row 3 1;hold 100;lean place 100;grow place by 10;fall place by 1;");
        y.read(2, 10);
        DUE.onPaper(y, "between(0, 1, 1), below 0", () -> y.between(0, 1, 1), -9);
        DUE.onPaper(y, "between(0, 1, 200)", () -> y.between(0, 1, 200), 0);
    }

    private static void betweenOfOthers() {
        DUE.about("20: behind some hours .. if another ROW is LEARNT now than if not");
        NonsenseRows x = steady(100);
        // the ROWS have nothing in common: 50 is left of it either way
        DUE.onPaper(x, "after(0, 50)", () -> x.after(0, 50), 6);
        DUE.onPaper(x, "between(0, 1, 50)", () -> x.between(0, 1, 50), 0);
        DUE.onPaper(x, "between(1, 0, 50)", () -> x.between(1, 0, 50), 0);
    }

    private static void betweenOfNone() {
        DUE.about("20: NOTHING: it can't be LEARNT, one needs() is NONE");
        for (int hold : new int[] {39, 40}) {
            NonsenseRows x = Due.told("thing easy 9;thing easy 9;thing easy 1;row 0 1;row 0 2;hold " + hold + ";lean place 100;grow place by easy;");
            DUE.onPaper(x, "between(0, 1, 1) with hold " + hold, () -> x.between(0, 1, 1), hold == 39 ? 0 : NOTHING);
        }
        // THING 1 goes by next 0, 1, which is 1 and which the other ROW takes or lifts
        String text = "thing easy 9;thing easy 0;thing easy 9;row 0 1;row 0 2;lean place 20;lean next 100;hold 100;grow place by easy times 100;";
        NonsenseRows y = Due.told(text + "grow next by has plus hour;mix next by 1000;");
        y.waits(1);
        y.read(0, 1);
        y.waits(23);
        DUE.is("after(0, 24)", y.after(0, 24), 8);
        DUE.onPaper(y, "between(0, 1, 24), NONE behind the other", () -> y.between(0, 1, 24), NOTHING);
        NonsenseRows z = Due.told(text + "grow next by hour;mix next by 0 minus 50;");
        z.waits(1);
        z.read(0, 1);
        z.waits(23);
        DUE.is("after(0, 24)", z.after(0, 24), -1);
        DUE.onPaper(z, "between(0, 1, 24), NONE without the other", () -> z.between(0, 1, 24), NOTHING);
    }

    private static void eveningRefused() {
        DUE.about("21: NOTHING: there are none such");
        NonsenseRows x = Due.told(STEADY);
        for (int row : NO_ROWS) {
            DUE.refused(x, "evening(" + row + ", 0, 0)", () -> x.evening(row, 0, 0), NOTHING);
        }
        for (int later : new int[] {-1, 24, MOST, LEAST}) {
            DUE.refused(x, "evening(0, " + later + ", 0)", () -> x.evening(0, later, 0), NOTHING);
        }
        for (int hours : NO_HOURS) {
            DUE.refused(x, "evening(0, 0, " + hours + ")", () -> x.evening(0, 0, hours), NOTHING);
        }
    }

    private static void eveningBounds() {
        DUE.about("21: later (0 .. 23) and so many hours (0 .. 200) from now");
        NonsenseRows x = Due.told(STEADY);
        DUE.onPaper(x, "evening(0, 0, 0)", () -> x.evening(0, 0, 0), 0);
        DUE.onPaper(x, "evening(0, 0, 200)", () -> x.evening(0, 0, 200), 0);
        // 110 less 20 is 90: two; less 21 is 89: three
        DUE.onPaper(x, "evening(0, 20, 0)", () -> x.evening(0, 20, 0), 0);
        DUE.onPaper(x, "evening(0, 21, 0)", () -> x.evening(0, 21, 0), 1);
        DUE.onPaper(x, "evening(0, 23, 0)", () -> x.evening(0, 23, 0), 1);
        DUE.onPaper(x, "evening(1, 23, 0), the last ROW", () -> x.evening(1, 23, 0), 1);
        // twelve a day, from hour 12 on: 108 in 223 hours, 97 in the last 200 of them; 2 and 13 are left: 11 and 10
        NonsenseRows y = Due.told(THINGS + "row 0 1;hold 100;lean place 100;grow place by 10;fall place by hour over 12;");
        DUE.onPaper(y, "evening(0, 23, 200)", () -> y.evening(0, 23, 200), 1);
        // 100 a READING at hour 1: 200 now, 157 left; 9 at hour 11: 27 later, none left, and 5 at hour 44: two and one
        NonsenseRows z = Due.told(THINGS + "row 0 1;hold 10;lean place 100;grow place by 100 over hour;fall place by 1;");
        z.waits(1);
        DUE.onPaper(z, "evening(0, 10, 33), below 0", () -> z.evening(0, 10, 33), -1);
    }

    private static void eveningOfNone() {
        DUE.about("21: NOTHING: it can't be LEARNT, one needs() is NONE");
        NonsenseRows x = Due.told(THINGS + "row 0 1;hold 10;lean place 100;grow place by hour;fall place by 1;");
        DUE.onPaper(x, "evening(0, 5, 0), not now", () -> x.evening(0, 5, 0), NOTHING);
        x.waits(1);
        DUE.onPaper(x, "evening(0, 22, 0)", () -> x.evening(0, 22, 0), 0);
        DUE.onPaper(x, "evening(0, 23, 0), not later", () -> x.evening(0, 23, 0), NOTHING);
        NonsenseRows w = Due.told(THINGS + "row 0 1;hold 10;lean place 100;grow place by hour;");
        w.waits(1);
        DUE.onPaper(w, "evening(0, 22, 3), needs() at hour 26", () -> w.evening(0, 22, 3), 0);
        DUE.onPaper(w, "evening(0, 23, 2), not at hour 24", () -> w.evening(0, 23, 2), NOTHING);
        // 20 behind two READINGS at hour 0 or 5, 8 or 13 of it at hour 12, when nothing grows
        NonsenseRows y = Due.told(THINGS + "row 0 1;hold 10;lean place 100;grow place by 10 minus hour over 12 times 10;fall place by 1;");
        DUE.onPaper(y, "evening(0, 5, 6)", () -> y.evening(0, 5, 6), 0);
        DUE.onPaper(y, "evening(0, 5, 7), LEARNT now it needs NONE", () -> y.evening(0, 5, 7), NOTHING);
        // 20 rises to 32 or 27 at hour 12, when a READING takes 10
        NonsenseRows z = Due.told(THINGS + "row 0 1;hold 10;lean place 100;grow place by 10 minus hour over 12 times 20;"
            + "fall place by 0 minus 1;");
        DUE.onPaper(z, "evening(0, 5, 6)", () -> z.evening(0, 5, 6), 0);
        DUE.onPaper(z, "evening(0, 5, 7), LEARNT later it needs NONE", () -> z.evening(0, 5, 7), NOTHING);
        z.learn(0);
        DUE.is("after(0, 12), LEARNT now", z.after(0, 12), 2);
    }

    private static void when() {
        DUE.about("22: NONE: in none; -2: there is none such");
        NonsenseRows x = Due.told(STEADY);
        for (int row : NO_ROWS) {
            DUE.refused(x, "when(" + row + ")", () -> x.when(row), -2);
        }
        DUE.onPaper(x, "when(1), the last ROW", () -> x.when(1), 0);
        NonsenseRows y = Due.told(THINGS + "row 0 1;hold 897;lean place 100;grow place by hour;");
        DUE.onPaper(y, "when(0): 39 times 23 is enough", () -> y.when(0), 23);
        NonsenseRows z = Due.told(THINGS + "row 0 1;hold 898;lean place 100;grow place by hour;");
        DUE.onPaper(z, "when(0): .. is not", () -> z.when(0), -1);
    }

    private static void whenBounds() {
        DUE.about("22: in how many hours (0 .. 23), the first of several");
        NonsenseRows x = Due.told(THINGS + "row 0 1;hold 46;lean place 100;grow place by hour;");
        DUE.onPaper(x, "when(0), the last", () -> x.when(0), 23);
        x.waits(23);
        DUE.onPaper(x, "when(0), now", () -> x.when(0), 0);
        x.waits(1);
        DUE.onPaper(x, "when(0) at hour 24", () -> x.when(0), 23);
        NonsenseRows y = Due.told(THINGS + "row 0 1;hold 44;lean place 100;grow place by hour;");
        DUE.onPaper(y, "when(0), the first of two", () -> y.when(0), 22);
        y.waits(23);
        DUE.onPaper(y, "when(0), now and 23 hours later", () -> y.when(0), 0);
        // what is there rises by 1 an hour from 10 on: 33 in 23 hours, 34 in 24, which is not asked
        String rising = THINGS + "row 0 1;lean place 100;grow place by 10;fall place by 0 minus 1;";
        NonsenseRows z = Due.told(rising + "hold 53;");
        z.read(0, 1);
        DUE.onPaper(z, "when(0) at 33", () -> z.when(0), 23);
        NonsenseRows w = Due.told(rising + "hold 54;");
        w.read(0, 1);
        DUE.onPaper(w, "when(0) at 34 would be 24", () -> w.when(0), 14);
    }

    private static void must() {
        DUE.about("23: (NONE counts as 41), the first of several; -2: there is none such");
        NonsenseRows x = Due.told(THINGS + "row 0 1;row 1 0;hold 100;lean place 100;grow place by 10;");
        for (int row : NO_ROWS) {
            DUE.refused(x, "must(" + row + ")", () -> x.must(row), -2);
        }
        DUE.onPaper(x, "must(1), the last ROW", () -> x.must(1), 3);
        NonsenseRows y = Due.told(THINGS + "row 0 1;");
        DUE.onPaper(y, "must(0), the first of four", () -> y.must(0), 0);
        NonsenseRows z = Due.told(THINGS + "row 0 1;hold 1;");
        DUE.onPaper(z, "must(0), the first of four that are NONE", () -> z.must(0), 0);
        // THING 1 has back 0, 1, which is 40, and 1 a READING of each next and place: without back 78 behind 39
        NonsenseRows w = Due.told("thing easy 9;thing easy 0;row 0 1;row 1 0;hold 79;lean next 100;lean back 100;lean place 100;"
            + "grow next by 1 minus easy;grow back by 20;grow place by easy times 20 plus 1;");
        w.read(1, 2);
        DUE.is("without(0, 0)", w.without(0, 0), 40);
        DUE.is("without(0, 1)", w.without(0, 1), -1);
        DUE.is("without(0, 3)", w.without(0, 3), -1);
        DUE.onPaper(w, "must(0), back", () -> w.must(0), 1);
    }

    private static void verse() {
        DUE.about("24: cut; NOTHING: there are none such, one is NONE");
        NonsenseRows x = Due.told("thing easy 1;thing easy 2;thing easy 3;row 0 1;row 1 2;hold 12;lean place 100;grow place by easy;");
        for (int row : NO_ROWS) {
            DUE.refused(x, "verse(" + row + ", 0)", () -> x.verse(row, 0), NOTHING);
            DUE.refused(x, "verse(0, " + row + ")", () -> x.verse(0, row), NOTHING);
        }
        // 13 and 7: 1857.1, 538.4
        DUE.onPaper(x, "verse(0, 1)", () -> x.verse(0, 1), 1857);
        DUE.onPaper(x, "verse(1, 0)", () -> x.verse(1, 0), 538);
        DUE.onPaper(x, "verse(1, 1)", () -> x.verse(1, 1), 1000);
        for (int hold : new int[] {39, 40}) {
            NonsenseRows y = Due.told("thing easy 1;thing easy 9;thing easy 9;row 0 1;row 1 2;hold " + hold + ";lean place 100;grow place by easy;");
            // 40 and 6
            DUE.onPaper(y, "verse(0, 1) with hold " + hold, () -> y.verse(0, 1), hold == 39 ? 6666 : NOTHING);
            DUE.onPaper(y, "verse(1, 0) with hold " + hold, () -> y.verse(1, 0), hold == 39 ? 150 : NOTHING);
            DUE.onPaper(y, "verse(0, 0) with hold " + hold, () -> y.verse(0, 0), hold == 39 ? 1000 : NOTHING);
        }
    }

    private static void nearRefused() {
        DUE.about("25: so many (1 .. 11) places off; -2: there are none such");
        NonsenseRows x = Due.told(THINGS + "row 0 1 2 3;row 0 2 1 3;");
        for (int row : NO_ROWS) {
            DUE.refused(x, "near(" + row + ", 0, 1, false)", () -> x.near(row, 0, 1, false), -2);
            DUE.refused(x, "near(0, " + row + ", 1, true)", () -> x.near(0, row, 1, true), -2);
        }
        for (int off : new int[] {0, -1, 12, MOST, LEAST}) {
            DUE.refused(x, "near(0, 1, " + off + ", false)", () -> x.near(0, 1, off, false), -2);
            DUE.refused(x, "near(0, 1, " + off + ", true)", () -> x.near(0, 1, off, true), -2);
        }
    }

    private static void nearBounds() {
        DUE.about("25: in that order (turned false) or the other way round");
        NonsenseRows x = Due.told("thing easy 1;".repeat(13) + "row 0 1 2 3 4 5 6 7 8 9 10 11;row 0 11;row 11 0;row 12 0;row 0 12;");
        DUE.is("near(1, 0, 11, false)", x.near(1, 0, 11, false), 1);
        DUE.is("near(1, 0, 11, true)", x.near(1, 0, 11, true), 0);
        DUE.is("near(1, 0, 10, false)", x.near(1, 0, 10, false), 0);
        DUE.is("near(2, 0, 11, true)", x.near(2, 0, 11, true), 1);
        DUE.is("near(2, 0, 11, false)", x.near(2, 0, 11, false), 0);
        DUE.is("near(0, 0, 1, false)", x.near(0, 0, 1, false), 11);
        DUE.is("near(0, 0, 1, true)", x.near(0, 0, 1, true), 0);
        DUE.is("near(0, 0, 2, false)", x.near(0, 0, 2, false), 0);
        for (int off = 1; off <= 11; off++) {
            DUE.is("near(3, 0, " + off + ", true), a THING that is not in it", x.near(3, 0, off, true), 0);
            DUE.is("near(4, 0, " + off + ", false), a THING that is not in it", x.near(4, 0, off, false), 0);
            DUE.is("near(3, 0, " + off + ", false), a THING that is not in it", x.near(3, 0, off, false), 0);
            DUE.is("near(4, 0, " + off + ", true), a THING that is not in it", x.near(4, 0, off, true), 0);
        }
    }
}
