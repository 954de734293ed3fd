/** Each sentence of promises 30 to 37 and 41 to 45 that names an edge: at it, and just beyond. */
public final class EdgeRowsTest {
    private static final Due DUE = new Due();
    private static final int MOST = Integer.MAX_VALUE;
    private static final int LEAST = Integer.MIN_VALUE;
    private static final int[] NO_ROWS = {-1, 2, 12, MOST, LEAST};
    private static final int[] NO_SLOTS = {-1, 4, MOST, LEAST};
    private static final String THINGS = "thing easy 3;thing easy 1;thing easy 2;thing easy 0;";
    private static final String STEADY = THINGS + "row 0 1 2;row 1 0 3;hold 100;lean place 100;grow place by 10;fall place by 1;";
    private static final String MANY = "thing easy 1;".repeat(24);

    public static void main(String[] args) {
        shuffledRefused();
        shuffledBounds();
        shuffledFull();
        newRowsAgain();
        backwardRefused();
        backwardBounds();
        backwardFull();
        rowOfSlots();
        rowOfNumbers();
        rowOfTwice();
        rowOfHowMany();
        rowOfFull();
        thing();
        used();
        sitting();
        sittingOfSlips();
        book();
        bookOfLost();
        partsRefused();
        partsOfNone();
        partsOfFortyOne();
        partsOfOtherThings();
        partsTheFirst();
        keepAndBackRefused();
        keepInPlaceOfAnother();
        keepOfAFullBook();
        keepNotSlotsNorTape();
        keepOfNothing();
        row();
        rowStays();
        rowInPlaceOfAnother();
        write();
        writeCut();
        pasteSlots();
        pasteWidths();
        pasteBeyond();
        pasteOfNone();
        pasteAsTheyWere();
        pasteFull();
        DUE.end("EdgeRowsTest");
    }

    private static void things(NonsenseRows x, int row, int... due) {
        for (int i = 0; i < due.length; i++) {
            DUE.is("thing(" + row + ", " + i + ")", x.thing(row, i), due[i]);
        }
        DUE.is("thing(" + row + ", " + due.length + ")", x.thing(row, due.length), -1);
    }

    /** What a SLOT has, seen as a ROW that goes again; IMAGE 2 is used for it. */
    private static void has(NonsenseRows x, int slot, int... due) {
        x.keep(2);
        int row = x.rowOf(slot);
        DUE.is("rowOf(" + slot + ")", row, x.count(1) - 1);
        things(x, row, due);
        x.back(2);
    }

    // ---- new ROWS

    private static void shuffledRefused() {
        DUE.about("30: k (1 .. 3); -2: there are none such");
        NonsenseRows x = Due.told(STEADY);
        for (int row : NO_ROWS) {
            DUE.refused(x, "shuffled(" + row + ", 1)", () -> x.shuffled(row, 1), -2);
        }
        for (int k : new int[] {0, -1, 4, MOST, LEAST}) {
            DUE.refused(x, "shuffled(0, " + k + ")", () -> x.shuffled(0, k), -2);
        }
    }

    private static void shuffledBounds() {
        DUE.about("30: from the first one on each (k + 1)-th, then from the second one, and so on");
        NonsenseRows x = Due.told("thing easy 1;".repeat(12) + "row 0 1 2 3 4 5 6 7 8 9 10 11;row 5 4;row 3 1 2;");
        DUE.is("shuffled(0, 1)", x.shuffled(0, 1), 3);
        things(x, 3, 0, 2, 4, 6, 8, 10, 1, 3, 5, 7, 9, 11);
        DUE.is("shuffled(0, 2)", x.shuffled(0, 2), 4);
        things(x, 4, 0, 3, 6, 9, 1, 4, 7, 10, 2, 5, 8, 11);
        DUE.is("shuffled(0, 3)", x.shuffled(0, 3), 5);
        things(x, 5, 0, 4, 8, 1, 5, 9, 2, 6, 10, 3, 7, 11);
        DUE.is("shuffled(1, 1) of two", x.shuffled(1, 1), 6);
        things(x, 6, 5, 4);
        DUE.is("shuffled(1, 3) of two", x.shuffled(1, 3), 7);
        things(x, 7, 5, 4);
        DUE.is("shuffled(2, 1) of three", x.shuffled(2, 1), 8);
        things(x, 8, 3, 2, 1);
        DUE.is("shuffled(8, 3), a new one", x.shuffled(8, 3), 9);
        things(x, 9, 3, 2, 1);
        things(x, 0, 0, 1, 2, 3, 4, 5, 6, 7, 8, 9, 10, 11);
        DUE.is("used(9)", x.used(9), 0);
    }

    private static void newRowsAgain() {
        DUE.about("30, 31, 32: a new ROW, where there was one that went again");
        NonsenseRows x = Due.told(STEADY);
        DUE.put(x, 0, 0, 3, 2);
        x.keep(0);
        for (int way = 0; way < 6; way++) {
            DUE.is("the new ROW", way % 3 == 0 ? x.rowOf(0) : way % 3 == 1 ? x.backward(0) : x.shuffled(0, 1), 2);
            DUE.is("used(2)", x.used(2), 0);
            DUE.is("thing(2, 1)", x.thing(2, 1), way % 3 == 1 ? 1 : 2);
            DUE.is("thing(2, 2)", x.thing(2, 2), way % 3 == 0 ? -1 : way % 3 == 1 ? 0 : 1);
            x.read(2, 7);
            x.back(0);
        }
    }

    private static void shuffledFull() {
        DUE.about("30: -3: there are twelve");
        NonsenseRows x = Due.told("thing easy 1;thing easy 1;" + "row 0 1;".repeat(11));
        DUE.is("the twelfth", x.shuffled(10, 1), 11);
        DUE.refused(x, "the 13th", () -> x.shuffled(11, 1), -3);
        DUE.refused(x, "the 13th of none such", () -> x.shuffled(12, 1), -2);
        DUE.refused(x, "the 13th, k 4", () -> x.shuffled(0, 4), -2);
        DUE.is("read(11, 1)", x.read(11, 1), 1);
    }

    private static void backwardRefused() {
        DUE.about("31: -2 likewise");
        NonsenseRows x = Due.told(STEADY);
        for (int row : NO_ROWS) {
            DUE.refused(x, "backward(" + row + ")", () -> x.backward(row), -2);
        }
    }

    private static void backwardBounds() {
        DUE.about("31: a new ROW, backward");
        NonsenseRows x = Due.told("thing easy 1;".repeat(12) + "row 0 1 2 3 4 5 6 7 8 9 10 11;row 5 4;");
        DUE.is("backward(0)", x.backward(0), 2);
        things(x, 2, 11, 10, 9, 8, 7, 6, 5, 4, 3, 2, 1, 0);
        DUE.is("backward(1), the last ROW told", x.backward(1), 3);
        things(x, 3, 4, 5);
        DUE.is("backward(3), a new one", x.backward(3), 4);
        things(x, 4, 5, 4);
    }

    private static void backwardFull() {
        DUE.about("31: -3 likewise");
        NonsenseRows x = Due.told("thing easy 1;thing easy 1;" + "row 0 1;".repeat(11));
        DUE.is("the twelfth", x.backward(10), 11);
        DUE.refused(x, "the 13th", () -> x.backward(11), -3);
        DUE.refused(x, "the 13th of none such", () -> x.backward(12), -2);
    }

    private static void rowOfSlots() {
        DUE.about("32: -2: there is no such SLOT; -6: it has nothing");
        NonsenseRows x = Due.told(STEADY);
        for (int slot : NO_SLOTS) {
            DUE.refused(x, "rowOf(" + slot + ")", () -> x.rowOf(slot), -2);
        }
        for (int slot = 0; slot < 4; slot++) {
            int s = slot;
            DUE.refused(x, "rowOf(" + slot + ")", () -> x.rowOf(s), -6);
            DUE.put(x, slot, 0, 3, slot == 3 ? 0 : slot);
            DUE.is("rowOf(" + slot + ")", x.rowOf(slot), 2 + slot);
            things(x, 2 + slot, 3, slot == 3 ? 0 : slot);
        }
    }

    private static void rowOfNumbers() {
        DUE.about("32: -2: .. a number is no THING");
        NonsenseRows x = Due.told(STEADY);
        DUE.put(x, 0, 3, 0, 3);
        DUE.is("rowOf(0) of the first and the last", x.rowOf(0), 2);
        long far = 1L << 32;
        for (long bad : new long[] {4, -1, 24, far, far + 1, -far, Long.MAX_VALUE, Long.MIN_VALUE, MOST, LEAST, 32, 33, 64}) {
            DUE.put(x, 0, 3, bad, 1);
            DUE.refused(x, "rowOf(0) of " + bad, () -> x.rowOf(0), -2);
            DUE.put(x, 0, 3, 1, 2, bad);
            DUE.refused(x, "rowOf(0) of .. " + bad, () -> x.rowOf(0), -2);
        }
        NonsenseRows y = new NonsenseRows();
        DUE.put(y, 0, 0, 0, 1);
        DUE.refused(y, "rowOf(0) without THINGS", () -> y.rowOf(0), -2);
        NonsenseRows z = Due.told(MANY + "row 0 1;");
        DUE.put(z, 0, 0, 23, 0);
        DUE.is("rowOf(0) of 23", z.rowOf(0), 1);
        DUE.put(z, 0, 0, 24, 0);
        DUE.refused(z, "rowOf(0) of 24", () -> z.rowOf(0), -2);
    }

    private static void rowOfTwice() {
        DUE.about("32: -2: .. or twice");
        NonsenseRows x = Due.told(MANY + "row 0 1;row 1 2;");
        DUE.put(x, 0, 0, 0, 0);
        DUE.refused(x, "rowOf(0) of 0 0", () -> x.rowOf(0), -2);
        DUE.put(x, 0, 0, 23, 22, 23);
        DUE.refused(x, "rowOf(0) of 23 22 23", () -> x.rowOf(0), -2);
        DUE.put(x, 0, 0, 1, 2, 3, 4, 5, 6, 7, 8, 9, 10, 11, 11);
        DUE.refused(x, "rowOf(0), the last twice", () -> x.rowOf(0), -2);
        DUE.put(x, 0, 0, 1, 257);
        DUE.refused(x, "rowOf(0), one twice as it was cut", () -> x.rowOf(0), -2);
    }

    private static void rowOfHowMany() {
        DUE.about("32: -2: .. or there are not 2 .. 12");
        NonsenseRows x = Due.told(MANY + "row 0 1;");
        for (int n : new int[] {0, 1, 2, 3, 11, 12, 13, 14, 24, 60}) {
            x.row(0, 0, n);
            for (int i = 0; i < n; i++) {
                x.write(0, i, i);
            }
            x.keep(0);
            DUE.is("rowOf(0) of " + n, x.rowOf(0), n < 2 || n > 12 ? -2 : 1);
            DUE.is("count(1) of " + n, x.count(1), n < 2 || n > 12 ? 1 : 2);
            x.back(0);
        }
    }

    private static void rowOfFull() {
        DUE.about("32: -3: there are twelve");
        NonsenseRows x = Due.told("thing easy 1;thing easy 1;" + "row 0 1;".repeat(11));
        DUE.put(x, 0, 0, 1, 0);
        DUE.is("the twelfth", x.rowOf(0), 11);
        things(x, 11, 1, 0);
        DUE.refused(x, "the 13th", () -> x.rowOf(0), -3);
        DUE.refused(x, "the 13th of nothing", () -> x.rowOf(1), -6);
        DUE.refused(x, "the 13th of no SLOT", () -> x.rowOf(4), -2);
        DUE.put(x, 0, 0, 1, 1);
        DUE.refused(x, "the 13th of one twice", () -> x.rowOf(0), -2);
    }

    private static void thing() {
        DUE.about("33: NONE: there is none such; -2: there is no such ROW");
        NonsenseRows x = Due.told(STEADY);
        things(x, 0, 0, 1, 2);
        things(x, 1, 1, 0, 3);
        for (int i : new int[] {-1, 3, 12, MOST, LEAST}) {
            DUE.is("thing(0, " + i + ")", x.thing(0, i), -1);
            DUE.is("thing(1, " + i + ")", x.thing(1, i), -1);
        }
        for (int row : NO_ROWS) {
            DUE.is("thing(" + row + ", 0)", x.thing(row, 0), -2);
            DUE.is("thing(" + row + ", -1)", x.thing(row, -1), -2);
        }
    }

    private static void used() {
        DUE.about("34: how often a ROW was READ in all; -2: there is none such");
        NonsenseRows x = Due.told(STEADY);
        DUE.is("used(0)", x.used(0), 0);
        for (int row : NO_ROWS) {
            DUE.is("used(" + row + ")", x.used(row), -2);
        }
        x.read(1, 50);
        x.needs(1);
        x.learn(1);
        DUE.is("used(1), the last ROW", x.used(1), 52);
        for (int i = 0; i < 70; i++) {
            x.read(0, 50);
        }
        DUE.is("used(0) of more SITTINGS than the BOOK has", x.used(0), 3500);
        x.forget();
        DUE.is("used(0) behind forget()", x.used(0), 3500);
    }

    // ---- the BOOK

    private static void sitting() {
        DUE.about("35: of SITTING i what 0 .. 4; NONE for others");
        NonsenseRows x = Due.told(STEADY);
        DUE.is("sitting(0, 0) of none", x.sitting(0, 0), -1);
        x.waits(3);
        x.read(1, 10);
        x.waits(2);
        x.learn(0);
        int[][] due = {{1, 10, 3, 3, 0}, {0, 11, 5, 3, 0}};
        for (int i = 0; i < 2; i++) {
            for (int what = 0; what < 5; what++) {
                DUE.is("sitting(" + i + ", " + what + ")", x.sitting(i, what), due[i][what]);
            }
            for (int what : new int[] {-1, 5, 6, MOST, LEAST}) {
                DUE.is("sitting(" + i + ", " + what + ")", x.sitting(i, what), -1);
            }
        }
        for (int i : new int[] {-1, 2, 59, 60, MOST, LEAST}) {
            for (int what = -1; what < 6; what++) {
                DUE.is("sitting(" + i + ", " + what + ")", x.sitting(i, what), -1);
            }
        }
    }

    private static void sittingOfSlips() {
        DUE.about("35: SLIPS (how many) ahead of it, behind it");
        NonsenseRows x = Due.told("thing easy 1;".repeat(12) + "row 0 1 2 3 4 5 6 7 8 9 10 11;hold 10;lean place 100;grow place by 5;fall place by 1;");
        x.read(0, 1);
        x.read(0, 1);
        x.waits(1);
        x.read(0, 1);
        int[][] due = {{12, 12}, {12, 0}, {12, 0}};
        for (int i = 0; i < 3; i++) {
            DUE.is("sitting(" + i + ", 3)", x.sitting(i, 3), due[i][0]);
            DUE.is("sitting(" + i + ", 4)", x.sitting(i, 4), due[i][1]);
        }
        NonsenseRows y = Due.told(THINGS + "row 0 1 3;hold 3;lean place 100;grow place by easy;");
        y.learn(0);
        DUE.is("sitting(0, 4) of what can't be LEARNT", y.sitting(0, 4), 1);
        DUE.is("sitting(0, 1) of what can't be LEARNT", y.sitting(0, 1), 40);
    }

    private static void book() {
        DUE.about("36: a ROW that is in them twice or more; what 0 .. 3; NONE for others");
        NonsenseRows x = Due.told(STEADY);
        for (int what = -1; what < 5; what++) {
            DUE.is("book(0, " + what + ") of none", x.book(0, what), -1);
        }
        x.waits(2);
        x.read(0, 4);
        for (int what = -1; what < 5; what++) {
            DUE.is("book(0, " + what + ") of one", x.book(0, what), -1);
        }
        x.waits(5);
        x.read(1, 9);
        x.waits(1);
        x.learn(0);
        int[] due = {2, 4, 8, 6};
        for (int what = 0; what < 4; what++) {
            DUE.is("book(0, " + what + ") of two", x.book(0, what), due[what]);
            DUE.is("book(1, " + what + ") of one", x.book(1, what), -1);
        }
        for (int what : new int[] {-1, 4, 5, MOST, LEAST}) {
            DUE.is("book(0, " + what + ")", x.book(0, what), -1);
        }
        for (int row : NO_ROWS) {
            DUE.is("book(" + row + ", 0)", x.book(row, 0), -1);
        }
        x.waits(200);
        x.read(0, 50);
        int[] more = {3, 4, 50, 206};
        for (int what = 0; what < 4; what++) {
            DUE.is("book(0, " + what + ") of three", x.book(0, what), more[what]);
        }
        x.forget();
        DUE.is("book(0, 0) behind forget()", x.book(0, 0), -1);
    }

    private static void bookOfLost() {
        DUE.about("36: of the SITTINGS that the BOOK has");
        NonsenseRows x = Due.told(STEADY);
        x.read(0, 7);
        x.waits(1);
        x.read(0, 8);
        for (int i = 0; i < 58; i++) {
            x.read(1, 1);
        }
        DUE.is("book(0, 0) of 60", x.book(0, 0), 2);
        DUE.is("book(0, 1) of 60", x.book(0, 1), 7);
        DUE.is("book(0, 3) of 60", x.book(0, 3), 1);
        x.read(1, 1);
        DUE.is("book(0, 0) of 61", x.book(0, 0), -1);
        DUE.is("book(1, 0) of 61", x.book(1, 0), 59);
        x.read(0, 2);
        DUE.is("book(0, 0) of 62", x.book(0, 0), -1);
        DUE.is("book(1, 0) of 62", x.book(1, 0), 59);
        for (int i = 0; i < 59; i++) {
            x.read(0, 3);
        }
        DUE.is("book(0, 0), all sixty", x.book(0, 0), 60);
        DUE.is("book(0, 1), all sixty", x.book(0, 1), 2);
    }

    private static void partsRefused() {
        DUE.about("37: -2: no such k; -6: it has nothing");
        NonsenseRows x = Due.told(STEADY);
        for (int k : new int[] {-1, 3, MOST, LEAST}) {
            DUE.refused(x, "parts(" + k + ")", () -> x.parts(k), -2);
        }
        for (int k = 0; k < 3; k++) {
            int image = k;
            DUE.refused(x, "parts(" + k + ")", () -> x.parts(image), -6);
            x.keep(k);
            DUE.onPaper(x, "parts(" + k + ") of all alike", () -> x.parts(image), 0);
        }
    }

    private static void partsOfNone() {
        DUE.about("37: NONE: there are none (ROWS by number, of as many THINGS)");
        NonsenseRows x = new NonsenseRows();
        x.keep(0);
        DUE.onPaper(x, "parts(0) without ROWS", () -> x.parts(0), -1);
        Due.tell(x, STEADY);
        DUE.onPaper(x, "parts(0), the IMAGE has no ROWS", () -> x.parts(0), -1);
        x.keep(1);
        Due.tell(x, "");
        DUE.onPaper(x, "parts(1), the IMAGE alone has ROWS", () -> x.parts(1), -1);
        Due.tell(x, THINGS + "row 0 1;row 0 1 2 3;hold 100;");
        DUE.onPaper(x, "parts(1), none of as many THINGS", () -> x.parts(1), -1);
        Due.tell(x, THINGS + "row 0 1;row 0 1 2;hold 100;");
        DUE.onPaper(x, "parts(1), the second alone", () -> x.parts(1), 1);
        Due.tell(x, THINGS + "row 0 1;row 0 1;row 0 1 2;hold 100;");
        DUE.onPaper(x, "parts(1), the third has no number there", () -> x.parts(1), -1);
    }

    private static void partsOfFortyOne() {
        DUE.about("37: NONE counts as 41");
        // the IMAGE needs 2 and 3; 40 and NONE here are alike far off, 39 and NONE are not
        for (int hold : new int[] {38, 39}) {
            NonsenseRows x = Due.told(THINGS + "row 0 1;row 2 3;hold 39;lean place 100;grow place by 20;");
            x.read(0, 1);
            x.keep(0);
            Due.tell(x, "thing easy 1;thing easy 1;thing easy 0;thing easy 0;row 0 1;row 2 3;hold " + hold + ";lean place 100;grow place by easy;");
            DUE.is("needs(0)", x.needs(0), hold + 1);
            DUE.is("needs(1)", x.needs(1), -1);
            DUE.onPaper(x, "parts(0) with hold " + hold, () -> x.parts(0), hold == 39 ? 0 : 1);
            x.keep(1);
            x.back(0);
            DUE.onPaper(x, "parts(1) the other way, hold " + hold, () -> x.parts(1), hold == 39 ? 0 : 1);
        }
    }

    private static void partsOfOtherThings() {
        DUE.about("37: the HEAD of IMAGE k with its TEXT");
        NonsenseRows x = Due.told(THINGS + "row 3 2;row 0 1;hold 3;lean place 100;grow place by easy plus 1;");
        // THING 3 has 1 a READING, THING 1 has 2: four and three
        x.keep(0);
        Due.tell(x, THINGS + "row 0 1;row 3 2;hold 3;lean place 100;grow place by easy plus 1;");
        DUE.is("needs(0)", x.needs(0), 3);
        DUE.is("needs(1)", x.needs(1), 4);
        DUE.onPaper(x, "parts(0), one each", () -> x.parts(0), 0);
        DUE.is("needs(1) of its own TEXT", x.needs(1), 4);
        DUE.is("fresh(1) of its own TEXT", x.fresh(1), 4);
        Due.tell(x, THINGS + "row 0 1;row 2 3;hold 5;lean place 100;grow place by easy plus 1;");
        // here 4 and 6, there 4 and 3
        DUE.onPaper(x, "parts(0), by the IMAGE's own HOLD", () -> x.parts(0), 1);
        DUE.is("fresh(1) of its own TEXT", x.fresh(1), 6);
        Due.tell(x, THINGS + "row 3 2;row 1 3;hold 6;lean place 100;grow place by easy plus 1;");
        x.keep(1);
        Due.tell(x, THINGS + "row 2 3;row 0 1;hold 6;lean place 100;grow place by easy plus 1;");
        // here 7 and 4, there 7 and 7
        DUE.onPaper(x, "parts(1), by the IMAGE's own ROWS", () -> x.parts(1), 1);
    }

    private static void partsTheFirst() {
        DUE.about("37: most unlike (by how much) .. the first of several");
        NonsenseRows x = Due.told(THINGS + "row 0 1;row 1 0;row 2 3;row 3 2;hold 100;lean place 100;grow place by 10;");
        x.keep(0);
        x.read(1, 2);
        DUE.onPaper(x, "parts(0), one", () -> x.parts(0), 1);
        x.read(2, 2);
        DUE.onPaper(x, "parts(0), two alike", () -> x.parts(0), 1);
        x.read(3, 3);
        DUE.onPaper(x, "parts(0), the last is more", () -> x.parts(0), 3);
        x.keep(1);
        x.back(0);
        DUE.onPaper(x, "parts(1), fewer or more is one", () -> x.parts(1), 3);
        x.read(0, 9);
        // here 2 against 11, there 8 against 11: 9 and 3
        DUE.onPaper(x, "parts(1), either way", () -> x.parts(1), 0);
    }

    // ---- IMAGES

    private static void keepAndBackRefused() {
        DUE.about("41, 42: k (0 .. 2); -2: no such k; -6: it has nothing");
        NonsenseRows x = Due.told(STEADY);
        x.read(0, 1);
        for (int k : new int[] {-1, 3, MOST, LEAST}) {
            DUE.refused(x, "keep(" + k + ")", () -> x.keep(k), -2);
            DUE.refused(x, "back(" + k + ")", () -> x.back(k), -2);
        }
        for (int k = 0; k < 3; k++) {
            int image = k;
            DUE.refused(x, "back(" + k + ")", () -> x.back(image), -6);
            DUE.onPaper(x, "keep(" + k + ")", () -> x.keep(image), 0);
            DUE.onPaper(x, "back(" + k + ")", () -> x.back(image), 0);
        }
    }

    private static void keepInPlaceOfAnother() {
        DUE.about("41: IMAGE k keeps TEXT, ROWS (and how often they were READ), HEAD and BOOK");
        NonsenseRows x = Due.told(STEADY);
        x.waits(30);
        x.read(0, 5);
        x.shuffled(0, 1);
        x.learn(2);
        String first = Look.at(x);
        x.keep(0);
        x.waits(9);
        x.read(1, 3);
        x.backward(1);
        String second = Look.at(x);
        x.keep(1);
        Due.tell(x, THINGS + "row 3 2 1 0;hold 7;lean off 9;grow off by 3;mix next by 4;");
        x.read(0, 1);
        String third = Look.at(x);
        x.keep(2);
        x.back(0);
        DUE.is("back(0)\n" + Look.at(x) + first, Look.at(x).equals(first) ? 1 : 0, 1);
        x.forget();
        x.back(1);
        DUE.is("back(1)\n" + Look.at(x) + second, Look.at(x).equals(second) ? 1 : 0, 1);
        x.keep(0);
        x.back(2);
        DUE.is("back(2)\n" + Look.at(x) + third, Look.at(x).equals(third) ? 1 : 0, 1);
        x.back(0);
        DUE.is("back(0), in place of another\n" + Look.at(x) + second, Look.at(x).equals(second) ? 1 : 0, 1);
    }

    private static void keepOfAFullBook() {
        DUE.about("41: IMAGE k keeps .. BOOK, a full one too");
        NonsenseRows x = Due.told(STEADY);
        for (int i = 1; i <= 65; i++) {
            x.waits(i % 3);
            x.read(i % 2, i % 50 + 1);
        }
        String full = Look.at(x);
        x.keep(1);
        x.forget();
        for (int i = 0; i < 60; i++) {
            x.read(0, 1);
        }
        x.back(1);
        DUE.is("back(1)\n" + Look.at(x) + full, Look.at(x).equals(full) ? 1 : 0, 1);
        DUE.is("sitting(59, 1)", x.sitting(59, 1), 16);
        DUE.is("the SITTINGS that it lost", x.fit(0, 0, 0, 0, 0), -5);
    }

    private static void keepNotSlotsNorTape() {
        DUE.about("42: these are as IMAGE k has them; SLOTS, the TAPE and the FAULT are not of them");
        NonsenseRows x = Due.told(STEADY);
        x.keep(0);
        DUE.put(x, 0, 0, 2, 3);
        x.feed(0x20202020, 0x20202020, 0x20202020, 0x20202020, 0x20202020);
        Due.tell(x, "hold 5001;");
        x.feed(0x20202020, 0x20202020, 0x20202020, 0x20202020, 0x20202020);
        x.back(0);
        DUE.is("count(12)", x.count(12), 1);
        DUE.is("count(3)", x.count(3), 20);
        DUE.is("fault(0)", x.fault(0), 2);
        DUE.is("fault(1)", x.fault(1), 5);
        has(x, 0, 2, 3);
    }

    private static void keepOfNothing() {
        DUE.about("41: of a new object too");
        NonsenseRows x = new NonsenseRows();
        DUE.is("keep(2)", x.keep(2), 0);
        Due.tell(x, STEADY);
        x.read(0, 3);
        x.waits(3);
        DUE.is("back(2)", x.back(2), 0);
        for (int what = 0; what < 12; what++) {
            DUE.is("count(" + what + ")", x.count(what), 0);
        }
        DUE.is("read(0, 1)", x.read(0, 1), -2);
        DUE.is("forget()", x.forget(), 0);
    }

    // ---- SLOTS

    private static void row() {
        DUE.about("43: a SLOT (0 .. 3), WIDTH (0 .. 3), n at most 60; -2: there is no such SLOT or WIDTH, or n is above 60");
        NonsenseRows x = Due.told(STEADY);
        for (int bad : NO_SLOTS) {
            DUE.refused(x, "SLOT " + bad, () -> x.row(bad, 0, 1), -2);
            DUE.refused(x, "WIDTH " + bad, () -> x.row(0, bad, 1), -2);
            DUE.refused(x, "SLOT " + bad + ", n -1", () -> x.row(bad, 0, -1), -2);
            DUE.refused(x, "WIDTH " + bad + ", n -1", () -> x.row(0, bad, -1), -2);
        }
        for (int n : new int[] {61, 62, MOST}) {
            DUE.refused(x, "n " + n, () -> x.row(0, 0, n), -2);
        }
        for (int n : new int[] {-1, -2, LEAST}) {
            DUE.refused(x, "n " + n, () -> x.row(0, 0, n), -3);
        }
        for (int slot = 0; slot < 4; slot++) {
            for (int width = 0; width < 4; width++) {
                for (int n : new int[] {0, 1, 59, 60}) {
                    DUE.is("row(" + slot + ", " + width + ", " + n + ")", x.row(slot, width, n), 0);
                    DUE.is("write at " + (n - 1), x.write(slot, n - 1, 1), n == 0 ? -7 : 0);
                    DUE.is("write at " + n, x.write(slot, n, 1), -7);
                }
            }
        }
    }

    private static void rowStays() {
        DUE.about("43: -3, and the SLOT stays: n is below 0");
        NonsenseRows x = Due.told(STEADY);
        DUE.put(x, 1, 1, 3, 2, 1);
        DUE.is("row(1, 0, -1)", x.row(1, 0, -1), -3);
        has(x, 1, 3, 2, 1);
        DUE.is("row(1, 2, LEAST)", x.row(1, 2, LEAST), -3);
        has(x, 1, 3, 2, 1);
        DUE.is("row(1, 2, 61)", x.row(1, 2, 61), -2);
        DUE.is("row(1, 4, 2)", x.row(1, 4, 2), -2);
        has(x, 1, 3, 2, 1);
        DUE.put(x, 2, 1, 0, 0);
        DUE.is("its WIDTH stays", x.paste(1, 0, 2, 0, 2), 0);
        DUE.is("row(3, 0, -1) of nothing", x.row(3, 0, -1), -3);
        DUE.is("it has nothing still", x.write(3, 0, 1), -6);
        DUE.is("count(12)", x.count(12), 2);
    }

    private static void rowInPlaceOfAnother() {
        DUE.about("43: n numbers .. all 0 (in place of another one)");
        NonsenseRows x = Due.told(STEADY);
        DUE.put(x, 0, 0, 3, 2, 1);
        x.row(0, 0, 3);
        DUE.is("rowOf(0) of three that are 0", x.rowOf(0), -2);
        x.write(0, 0, 1);
        x.write(0, 1, 2);
        has(x, 0, 1, 2, 0);
        x.row(0, 3, 2);
        x.write(0, 1, 3);
        has(x, 0, 0, 3);
        DUE.is("write(0, 2, 1)", x.write(0, 2, 1), -7);
        x.row(0, 3, 60);
        for (int i = 0; i < 60; i++) {
            x.write(0, i, 3);
        }
        x.row(0, 3, 60);
        DUE.put(x, 1, 3, 1, 1);
        for (int i = 0; i < 60; i++) {
            x.paste(0, i, 1, 1, 1);
            has(x, 1, 1, 0);
            x.write(1, 1, 1);
        }
        x.row(0, 0, 0);
        DUE.is("days(0) of an empty row", x.days(0), 0);
        DUE.is("count(12)", x.count(12), 2);
    }

    private static void write() {
        DUE.about("44: -2: there is no such SLOT; -6: it has nothing; -7: there is no such number");
        NonsenseRows x = Due.told(STEADY);
        DUE.put(x, 0, 0, 3, 2, 1);
        for (int slot : NO_SLOTS) {
            DUE.is("write(" + slot + ", 0, 0)", x.write(slot, 0, 0), -2);
            DUE.is("write(" + slot + ", -1, 0)", x.write(slot, -1, 0), -2);
        }
        for (int slot = 1; slot < 4; slot++) {
            DUE.is("write(" + slot + ", 0, 0)", x.write(slot, 0, 0), -6);
            DUE.is("write(" + slot + ", -1, 0)", x.write(slot, -1, 0), -6);
        }
        for (int i : new int[] {-1, 3, 59, 60, MOST, LEAST}) {
            DUE.is("write(0, " + i + ", 0)", x.write(0, i, 0), -7);
        }
        has(x, 0, 3, 2, 1);
        DUE.is("write(0, 0, 0)", x.write(0, 0, 0), 0);
        DUE.is("write(0, 2, 3)", x.write(0, 2, 3), 0);
        has(x, 0, 0, 2, 3);
        x.row(0, 0, 0);
        DUE.is("write(0, 0, 0) of an empty row", x.write(0, 0, 0), -7);
    }

    /** The hours that a number comes to in days(); -1: it is refused. */
    private static int hours(int width, long v) {
        NonsenseRows x = Due.told(STEADY);
        DUE.put(x, 0, width, v, 0, 1);
        return x.days(0) == 1 ? x.count(4) : -1;
    }

    private static void writeCut() {
        DUE.about("44: v, cut to its WIDTH");
        long[][] due = {{0, 127, 127}, {0, 128, -1}, {0, 255, -1}, {0, 256, 0}, {0, 257, 1}, {0, -256, 0}, {0, -129, 127}, {0, -1, -1}, {0, 200, -1},
            {0, Long.MIN_VALUE, 0}, {0, Long.MAX_VALUE, -1}, {1, 200, 200}, {1, 201, -1}, {1, 128, 128}, {1, 256, -1}, {1, 65536, 0}, {1, 65537, 1},
            {1, 65535, -1}, {1, 32768, -1}, {1, -65536 + 9, 9}, {1, Long.MIN_VALUE + 9, 9}, {2, 65536, -1}, {2, 1L << 32, 0}, {2, (1L << 32) + 200, 200},
            {2, (1L << 32) - 1, -1}, {2, -(1L << 32) + 3, 3}, {2, 1L << 31, -1}, {2, Long.MIN_VALUE, 0}, {3, 1L << 32, -1}, {3, (1L << 32) + 5, -1},
            {3, 200, 200}, {3, Long.MIN_VALUE, -1}, {3, Long.MAX_VALUE, -1}, {3, 0, 0}, {3, -1, -1}};
        for (long[] d : due) {
            DUE.is("hours of " + d[1] + " in WIDTH " + d[0], hours((int) d[0], d[1]), d[2]);
        }
    }

    private static void pasteSlots() {
        DUE.about("45: -2: there is no such SLOT; -6: one has nothing");
        NonsenseRows x = Due.told(STEADY);
        DUE.put(x, 0, 0, 3, 2, 1);
        for (int slot : NO_SLOTS) {
            DUE.is("from " + slot, x.paste(slot, 0, 0, 0, 1), -2);
            DUE.is("to " + slot, x.paste(0, 0, slot, 0, 1), -2);
            DUE.is("from " + slot + " to one of nothing", x.paste(slot, 0, 1, 0, 1), -2);
            DUE.is("from one of nothing to " + slot, x.paste(1, 0, slot, 0, 1), -2);
            DUE.is("from " + slot + " beyond", x.paste(slot, -1, 0, 0, -1), -2);
        }
        DUE.is("from one of nothing", x.paste(1, 0, 0, 0, 1), -6);
        DUE.is("to one of nothing", x.paste(0, 0, 1, 0, 1), -6);
        DUE.is("from one of nothing to itself", x.paste(3, 0, 3, 0, 0), -6);
        DUE.is("to one of nothing, beyond", x.paste(0, -1, 3, -1, -1), -6);
        has(x, 0, 3, 2, 1);
        DUE.put(x, 3, 0, 0, 0);
        DUE.is("from 0 to 3", x.paste(0, 1, 3, 0, 2), 0);
        has(x, 3, 2, 1);
        DUE.is("from 3 to 0", x.paste(3, 1, 0, 0, 1), 0);
        DUE.is("rowOf(0) of 1 2 1", x.rowOf(0), -2);
    }

    private static void pasteWidths() {
        DUE.about("45: -8: they are not of one WIDTH");
        NonsenseRows x = Due.told(STEADY);
        for (int from = 0; from < 4; from++) {
            for (int to = 0; to < 4; to++) {
                DUE.put(x, 0, from, 3, 2, 1);
                DUE.put(x, 1, to, 0, 1, 2);
                DUE.is("WIDTH " + from + " to " + to + ", beyond", x.paste(0, 0, 1, 0, 4), from == to ? -7 : -8);
                DUE.is("WIDTH " + from + " to " + to + ", none", x.paste(0, 0, 1, 0, 0), from == to ? 0 : -8);
                DUE.is("WIDTH " + from + " to " + to, x.paste(0, 0, 1, 0, 3), from == to ? 0 : -8);
                has(x, 1, from == to ? 3 : 0, from == to ? 2 : 1, from == to ? 1 : 2);
                has(x, 0, 3, 2, 1);
            }
        }
    }

    private static void pasteBeyond() {
        DUE.about("45: -7, and nothing happens: some are beyond their rows, or a place or n is below 0");
        NonsenseRows x = Due.told(STEADY);
        DUE.put(x, 0, 0, 3, 2, 1);
        DUE.put(x, 1, 0, 0, 1, 2, 3);
        int[][] bad = {{0, 0, 4}, {1, 0, 3}, {2, 0, 2}, {3, 0, 1}, {4, 0, 0}, {0, 2, 3}, {0, 3, 2}, {0, 4, 1}, {0, 5, 0}, {-1, 0, 1}, {0, -1, 1},
            {0, 0, -1}, {-1, 0, 0}, {0, -1, 0}, {-1, -1, 2}, {-1, 0, -1}, {MOST, 0, 1}, {0, MOST, 1}, {0, 0, MOST}, {MOST, MOST, MOST}, {1, 0, MOST},
            {0, 1, MOST}, {LEAST, 0, 1}, {0, LEAST, 1}, {0, 0, LEAST}, {LEAST, LEAST, LEAST}, {MOST, 0, LEAST}, {1, 1, -1}, {3, 4, -1}};
        for (int[] b : bad) {
            DUE.is("paste of " + b[2] + " from " + b[0] + " to " + b[1], x.paste(0, b[0], 1, b[1], b[2]), -7);
            has(x, 0, 3, 2, 1);
            has(x, 1, 0, 1, 2, 3);
        }
        DUE.is("the other way: 4 from 0 to 0", x.paste(1, 0, 0, 0, 4), -7);
        DUE.is("the other way: 3 from 1 to 0", x.paste(1, 1, 0, 0, 3), 0);
        has(x, 0, 1, 2, 3);
        DUE.is("3 from 0 to 1", x.paste(0, 0, 1, 1, 3), 0);
        has(x, 1, 0, 1, 2, 3);
    }

    private static void pasteOfNone() {
        DUE.about("45: so many numbers, none too");
        NonsenseRows x = Due.told(STEADY);
        DUE.put(x, 0, 0, 3, 2, 1);
        DUE.put(x, 1, 0, 0, 1);
        x.row(2, 0, 0);
        DUE.is("none from the end to the end", x.paste(0, 3, 1, 2, 0), 0);
        DUE.is("none from behind the end", x.paste(0, 4, 1, 2, 0), -7);
        DUE.is("none to behind the end", x.paste(0, 3, 1, 3, 0), -7);
        DUE.is("none of an empty row", x.paste(2, 0, 2, 0, 0), 0);
        DUE.is("one of an empty row", x.paste(2, 0, 0, 0, 1), -7);
        DUE.is("one to an empty row", x.paste(0, 0, 2, 0, 1), -7);
        has(x, 0, 3, 2, 1);
        has(x, 1, 0, 1);
    }

    private static void pasteAsTheyWere() {
        DUE.about("45: put to another one's (or its own) .. as they were");
        NonsenseRows x = Due.told(MANY + "row 0 1;");
        DUE.put(x, 0, 0, 1, 2, 3, 4, 5);
        DUE.is("forward over itself", x.paste(0, 0, 0, 1, 4), 0);
        DUE.put(x, 1, 0, 9, 0, 0, 0, 0);
        DUE.is("what came of it", x.paste(0, 1, 1, 1, 4), 0);
        has(x, 1, 9, 1, 2, 3, 4);
        DUE.put(x, 0, 0, 1, 2, 3, 4, 5);
        DUE.is("backward over itself", x.paste(0, 1, 0, 0, 4), 0);
        DUE.put(x, 1, 0, 0, 0, 0, 0, 9);
        DUE.is("what came of it", x.paste(0, 0, 1, 0, 4), 0);
        has(x, 1, 2, 3, 4, 5, 9);
        DUE.put(x, 0, 0, 1, 2, 3, 4, 5);
        DUE.is("to where they are", x.paste(0, 0, 0, 0, 5), 0);
        has(x, 0, 1, 2, 3, 4, 5);
        for (int width = 0; width < 4; width++) {
            DUE.put(x, 0, width, 11, 12);
            DUE.put(x, 1, width, 21, 22, 23);
            DUE.is("in WIDTH " + width, x.paste(0, 0, 1, 1, 2), 0);
            has(x, 1, 21, 11, 12);
            has(x, 0, 11, 12);
        }
    }

    private static void pasteFull() {
        DUE.about("45: rows of sixty");
        NonsenseRows x = Due.told(MANY + "row 0 1;");
        x.row(0, 2, 60);
        x.row(1, 2, 60);
        for (int i = 0; i < 60; i++) {
            x.write(0, i, i % 20 + 1);
        }
        DUE.is("sixty", x.paste(0, 0, 1, 0, 60), 0);
        DUE.is("sixty-one", x.paste(0, 0, 1, 0, 61), -7);
        DUE.is("sixty from one on", x.paste(0, 1, 1, 0, 60), -7);
        DUE.is("the last", x.paste(0, 59, 1, 59, 1), 0);
        DUE.is("behind the last", x.paste(0, 60, 1, 60, 0), 0);
        x.row(2, 2, 3);
        DUE.is("the last three", x.paste(1, 57, 2, 0, 3), 0);
        has(x, 2, 18, 19, 20);
        DUE.is("the first three", x.paste(1, 0, 2, 0, 3), 0);
        has(x, 2, 1, 2, 3);
    }
}
