/** Promises 30 to 37 and 41 to 45: new rows, the book, images and slots. */
public final class RowsTest {
    private static final Due DUE = new Due();
    private static final int MOST = Integer.MAX_VALUE;
    private static final int LEAST = Integer.MIN_VALUE;
    private static final String THINGS = "thing easy 3;thing easy 1;thing easy 2;thing easy 0;";
    private static final String STEADY = THINGS + "row 0 1 2;row 1 0 3;hold 100;lean place 100;grow place by 10;fall place by 1;";

    public static void main(String[] args) {
        shuffled();
        backward();
        rowOf();
        thing();
        used();
        sitting();
        sittingsLost();
        book();
        parts();
        partsOfAnotherText();
        images();
        imagesOfBooks();
        row();
        write();
        paste();
        DUE.end("RowsTest");
    }

    private static void things(NonsenseRows x, int row, int... due) {
        for (int i = 0; i < due.length; i++) {
            DUE.is("thing(" + row + ", " + i + ")", x.thing(row, i), due[i]);
        }
        DUE.is("thing(" + row + ", " + due.length + ")", x.thing(row, due.length), -1);
    }

    private static void shuffled() {
        DUE.about("promise 30");
        NonsenseRows x = Due.told("thing easy 0;".repeat(12) + "row 6 5 4 3 2 1 0;row 0 1;");
        DUE.is("shuffled(0, 1)", x.shuffled(0, 1), 2);
        things(x, 2, 6, 4, 2, 0, 5, 3, 1);
        DUE.is("shuffled(0, 2)", x.shuffled(0, 2), 3);
        things(x, 3, 6, 3, 0, 5, 2, 4, 1);
        DUE.is("shuffled(0, 3)", x.shuffled(0, 3), 4);
        things(x, 4, 6, 2, 5, 1, 4, 0, 3);
        DUE.is("shuffled(1, 3)", x.shuffled(1, 3), 5);
        things(x, 5, 0, 1);
        DUE.is("shuffled(2, 1) of a new one", x.shuffled(2, 1), 6);
        things(x, 6, 6, 2, 5, 1, 4, 0, 3);
        DUE.is("shuffled(0, 0)", x.shuffled(0, 0), -2);
        DUE.is("shuffled(0, 4)", x.shuffled(0, 4), -2);
        DUE.is("shuffled(7, 1)", x.shuffled(7, 1), -2);
        DUE.is("shuffled(-1, 1)", x.shuffled(-1, 1), -2);
        DUE.is("shuffled(MOST, MOST)", x.shuffled(MOST, MOST), -2);
        DUE.is("count(1)", x.count(1), 7);
        for (int i = 7; i < 12; i++) {
            DUE.is("shuffled", x.shuffled(0, 1), i);
        }
        DUE.is("shuffled with twelve", x.shuffled(0, 1), -3);
        DUE.is("shuffled(0, 4) with twelve", x.shuffled(0, 4), -2);
        DUE.is("count(1)", x.count(1), 12);
    }

    private static void backward() {
        DUE.about("promise 31");
        NonsenseRows x = Due.told(STEADY);
        x.read(0, 3);
        DUE.is("backward(0)", x.backward(0), 2);
        things(x, 2, 2, 1, 0);
        things(x, 0, 0, 1, 2);
        DUE.is("used(2)", x.used(2), 0);
        DUE.is("count(6) stays", x.count(6), 1);
        DUE.is("backward(3)", x.backward(3), -2);
        DUE.is("backward(-1)", x.backward(-1), -2);
        for (int i = 3; i < 12; i++) {
            DUE.is("backward", x.backward(0), i);
        }
        DUE.is("backward with twelve", x.backward(0), -3);
        DUE.is("backward(12) with twelve", x.backward(12), -2);
        NonsenseRows y = Due.told(THINGS + "row 0 1 2;hold 30;lean back 50;lean place 100;grow back by 20;grow place by 10;");
        y.read(0, 2);
        y.backward(0);
        // 1 in place 1 has its place and back 2, 1; 0 in place 2 back 1, 0 alone
        DUE.is("support(1, 0)", y.support(1, 0), 0);
        DUE.is("support(1, 1)", y.support(1, 1), 40);
        DUE.is("support(1, 2)", y.support(1, 2), 20);
    }

    private static void rowOf() {
        DUE.about("promise 32");
        NonsenseRows x = Due.told("thing easy 0;".repeat(13) + "row 0 1;");
        DUE.is("rowOf(0)", x.rowOf(0), -6);
        DUE.is("rowOf(4)", x.rowOf(4), -2);
        DUE.is("rowOf(-1)", x.rowOf(-1), -2);
        DUE.put(x, 0, 0, 12, 3);
        DUE.is("rowOf(0)", x.rowOf(0), 1);
        things(x, 1, 12, 3);
        DUE.put(x, 1, 3, 12, 11, 10, 9, 8, 7, 6, 5, 4, 3, 2, 1);
        DUE.is("rowOf(1)", x.rowOf(1), 2);
        things(x, 2, 12, 11, 10, 9, 8, 7, 6, 5, 4, 3, 2, 1);
        DUE.put(x, 1, 3, 12, 11, 10, 9, 8, 7, 6, 5, 4, 3, 2, 1, 0);
        DUE.is("rowOf(1) of 13", x.rowOf(1), -2);
        DUE.put(x, 1, 3, 12);
        DUE.is("rowOf(1) of one", x.rowOf(1), -2);
        DUE.put(x, 1, 3);
        DUE.is("rowOf(1) of none", x.rowOf(1), -2);
        DUE.put(x, 1, 2, 1, 13);
        DUE.is("rowOf(1) with 13", x.rowOf(1), -2);
        DUE.put(x, 1, 2, 1, -1);
        DUE.is("rowOf(1) with -1", x.rowOf(1), -2);
        DUE.put(x, 1, 3, 1, 1L << 32);
        DUE.is("rowOf(1) with a great number", x.rowOf(1), -2);
        DUE.put(x, 1, 3, 5, 1, 5);
        DUE.is("rowOf(1) with one twice", x.rowOf(1), -2);
        DUE.put(x, 1, 0, 256, 257);
        DUE.is("rowOf(1) of cut numbers", x.rowOf(1), 3);
        things(x, 3, 0, 1);
        for (int i = 4; i < 12; i++) {
            DUE.is("rowOf", x.rowOf(0), i);
        }
        DUE.is("rowOf(0) with twelve", x.rowOf(0), -3);
        DUE.is("rowOf(2) with twelve", x.rowOf(2), -6);
        DUE.put(x, 1, 0, 1, 1);
        DUE.is("rowOf(1) with twelve, of one twice", x.rowOf(1), -2);
        DUE.is("read(11, 1)", x.read(11, 1), 1);
        rowsAgain();
    }

    /** A ROW in the stead of one that an IMAGE did not have is new all the same. */
    private static void rowsAgain() {
        NonsenseRows x = Due.told(THINGS + "row 0 1 2;");
        x.keep(0);
        DUE.put(x, 0, 0, 2, 3);
        for (int way = 0; way < 9; way++) {
            int row = way % 3 == 0 ? x.rowOf(0) : way % 3 == 1 ? x.backward(0) : x.shuffled(0, 1);
            DUE.is("the new ROW", row, 1);
            DUE.is("used(1)", x.used(1), 0);
            DUE.is("thing(1, 2)", x.thing(1, 2), way % 3 == 0 ? -1 : way % 3 == 1 ? 0 : 1);
            x.read(1, 5);
            x.back(0);
        }
        Due.tell(x, THINGS + "row 0 1;row 0 1 2 3;row 3 2 1 0;row 1 2 0;");
        Due.tell(x, THINGS + "row 0 1 2;");
        DUE.is("rowOf(0) behind another TEXT", x.rowOf(0), 1);
        things(x, 1, 2, 3);
        DUE.is("backward(0) behind another TEXT", x.backward(0), 2);
        things(x, 2, 2, 1, 0);
        DUE.is("shuffled(0, 1) behind another TEXT", x.shuffled(0, 1), 3);
        things(x, 3, 0, 2, 1);
    }

    private static void thing() {
        DUE.about("promise 33");
        NonsenseRows x = Due.told(STEADY);
        things(x, 0, 0, 1, 2);
        things(x, 1, 1, 0, 3);
        DUE.is("thing(0, -1)", x.thing(0, -1), -1);
        DUE.is("thing(0, MOST)", x.thing(0, MOST), -1);
        DUE.is("thing(2, 0)", x.thing(2, 0), -2);
        DUE.is("thing(-1, 0)", x.thing(-1, 0), -2);
        DUE.is("thing(2, -1)", x.thing(2, -1), -2);
    }

    private static void used() {
        DUE.about("promise 34");
        NonsenseRows x = Due.told(STEADY);
        DUE.is("used(0)", x.used(0), 0);
        x.read(0, 7);
        x.learn(0);
        x.read(0, 51);
        DUE.is("used(0)", x.used(0), 11);
        DUE.is("used(1)", x.used(1), 0);
        x.read(1, 50);
        x.read(1, 50);
        DUE.is("used(1)", x.used(1), 100);
        DUE.is("used(2)", x.used(2), -2);
        DUE.is("used(-1)", x.used(-1), -2);
        x.forget();
        DUE.is("used(0) in all", x.used(0), 11);
        x.keep(0);
        x.read(0, 1);
        x.back(0);
        DUE.is("used(0) as it was", x.used(0), 11);
    }

    private static void sitting() {
        DUE.about("promise 35");
        NonsenseRows x = Due.told(STEADY);
        DUE.is("sitting(0, 0)", x.sitting(0, 0), -1);
        x.read(1, 10);
        x.waits(6);
        x.learn(0);
        // place 2 of row 0 and place 0 of both are their own: no THING is in the same place in both
        int[] first = {1, 10, 0, 3, 0};
        int[] second = {0, 11, 6, 3, 0};
        for (int what = 0; what < 5; what++) {
            DUE.is("sitting(0, " + what + ")", x.sitting(0, what), first[what]);
            DUE.is("sitting(1, " + what + ")", x.sitting(1, what), second[what]);
        }
        x.waits(5);
        x.read(1, 1);
        DUE.is("sitting(2, 3)", x.sitting(2, 3), 3);
        DUE.is("sitting(2, 4)", x.sitting(2, 4), 3);
        DUE.is("sitting(2, 2)", x.sitting(2, 2), 11);
        DUE.is("sitting(0, 5)", x.sitting(0, 5), -1);
        DUE.is("sitting(0, -1)", x.sitting(0, -1), -1);
        DUE.is("sitting(3, 0)", x.sitting(3, 0), -1);
        DUE.is("sitting(-1, 0)", x.sitting(-1, 0), -1);
        DUE.is("sitting(LEAST, MOST)", x.sitting(LEAST, MOST), -1);
        NonsenseRows y = Due.told(THINGS + "row 0 1 2;hold 10;lean next 100;lean place 100;grow next by 10;");
        y.learn(0);
        DUE.is("sitting(0, 1) of what can't be LEARNT", y.sitting(0, 1), 40);
        DUE.is("sitting(0, 3)", y.sitting(0, 3), 3);
        DUE.is("sitting(0, 4)", y.sitting(0, 4), 1);
    }

    private static void sittingsLost() {
        DUE.about("the latest 60");
        NonsenseRows x = Due.told(STEADY);
        for (int i = 1; i <= 50; i++) {
            x.read(0, i);
        }
        for (int i = 1; i <= 13; i++) {
            x.read(1, i);
        }
        DUE.is("count(6)", x.count(6), 60);
        DUE.is("sitting(0, 1)", x.sitting(0, 1), 4);
        DUE.is("sitting(46, 1)", x.sitting(46, 1), 50);
        DUE.is("sitting(47, 0)", x.sitting(47, 0), 1);
        DUE.is("sitting(58, 1)", x.sitting(58, 1), 12);
        DUE.is("sitting(59, 1)", x.sitting(59, 1), 13);
        DUE.is("sitting(60, 1)", x.sitting(60, 1), -1);
        DUE.is("book(0, 0)", x.book(0, 0), 47);
        DUE.is("book(0, 1)", x.book(0, 1), 4);
    }

    private static void book() {
        DUE.about("promise 36");
        NonsenseRows x = Due.told(STEADY);
        x.read(0, 4);
        DUE.is("book(0, 0) of one", x.book(0, 0), -1);
        x.waits(3);
        x.read(1, 9);
        x.waits(4);
        DUE.is("learn(0)", x.learn(0), 8);
        DUE.is("book(0, 0)", x.book(0, 0), 2);
        DUE.is("book(0, 1)", x.book(0, 1), 4);
        DUE.is("book(0, 2)", x.book(0, 2), 8);
        DUE.is("book(0, 3)", x.book(0, 3), 7);
        DUE.is("book(1, 0)", x.book(1, 0), -1);
        x.waits(10);
        x.read(0, 5);
        DUE.is("book(0, 0)", x.book(0, 0), 3);
        DUE.is("book(0, 2)", x.book(0, 2), 5);
        DUE.is("book(0, 3)", x.book(0, 3), 17);
        x.forget();
        x.waits(5);
        x.read(1, 3);
        x.waits(4);
        x.read(1, 2);
        DUE.is("book(1, 3) from hour 5 on", x.book(1, 3), 4);
        DUE.is("book(0, 4)", x.book(0, 4), -1);
        DUE.is("book(1, 4)", x.book(1, 4), -1);
        DUE.is("book(1, -1)", x.book(1, -1), -1);
        DUE.is("book(0, -1)", x.book(0, -1), -1);
        DUE.is("book(2, 0)", x.book(2, 0), -1);
        DUE.is("book(-1, 0)", x.book(-1, 0), -1);
    }

    private static void parts() {
        DUE.about("promise 37");
        NonsenseRows x = Due.told(STEADY);
        DUE.is("parts(0)", x.parts(0), -6);
        DUE.is("parts(3)", x.parts(3), -2);
        DUE.is("parts(-1)", x.parts(-1), -2);
        x.keep(0);
        DUE.is("parts(0) of all alike", x.parts(0), 0);
        x.read(1, 2);
        DUE.is("parts(0)", x.parts(0), 1);
        x.read(0, 1);
        DUE.is("parts(0)", x.parts(0), 1);
        x.read(0, 1);
        DUE.is("parts(0), the first of several", x.parts(0), 0);
        x.keep(1);
        x.forget();
        x.read(0, 1);
        // row 0: 10 against 9, row 1: 11 against 9
        DUE.is("parts(1) the other way", x.parts(1), 1);
        DUE.is("count(6) stays", x.count(6), 1);
    }

    private static void partsOfAnotherText() {
        DUE.about("promise 37, another TEXT");
        NonsenseRows x = Due.told(THINGS + "row 0 1 2;row 1 2;row 2 3;row 0 1;hold 50;lean place 100;grow place by 10;");
        x.keep(0);
        Due.tell(x, THINGS + "row 0 1;row 3 2;row 2 3;hold 50;lean place 100;grow place by easy plus 9;");
        // row 0 has not as many, row 1: 7 against 6, row 2 the same
        DUE.is("parts(0)", x.parts(0), 1);
        Due.tell(x, THINGS + "row 0 1;row 3 2;row 2 1;hold 50;lean place 100;grow place by easy plus 10;");
        DUE.is("needs(1)", x.needs(1), 6);
        DUE.is("parts(0) of all alike", x.parts(0), 1);
        Due.tell(x, THINGS + "row 0 1;row 3 2;row 2 1;hold 50;lean place 100;grow place by easy;");
        // NONE as 41 against 6, and 41 against 6
        DUE.is("parts(0) of NONE", x.parts(0), 1);
        Due.tell(x, THINGS + "row 0 1;");
        DUE.is("parts(0) of none", x.parts(0), -1);
        partsOfFortyOne();
        Due.tell(x, "");
        DUE.is("parts(0) without ROWS", x.parts(0), -1);
    }

    /** 40 against 2 is as much as NONE against 3, if NONE counts as 41. */
    private static void partsOfFortyOne() {
        NonsenseRows x = Due.told(THINGS + "row 0 1;row 2 3;hold 39;lean place 100;grow place by 20;");
        x.read(0, 1);
        x.keep(0);
        DUE.is("needs(0)", x.needs(0), 2);
        DUE.is("needs(1)", x.needs(1), 3);
        Due.tell(x, "thing easy 1;thing easy 1;thing easy 0;thing easy 0;row 0 1;row 2 3;hold 39;lean place 100;grow place by easy;");
        DUE.is("needs(0)", x.needs(0), 40);
        DUE.is("needs(1)", x.needs(1), -1);
        DUE.is("parts(0)", x.parts(0), 0);
    }

    private static void images() {
        DUE.about("promises 41 and 42");
        NonsenseRows x = Due.told(STEADY);
        DUE.is("keep(3)", x.keep(3), -2);
        DUE.is("keep(-1)", x.keep(-1), -2);
        DUE.is("back(3)", x.back(3), -2);
        DUE.is("back(-1)", x.back(-1), -2);
        DUE.is("back(2)", x.back(2), -6);
        x.read(0, 3);
        x.waits(4);
        x.read(0, 2);
        x.row(0, 0, 3);
        DUE.is("keep(2)", x.keep(2), 0);
        DUE.is("back(1)", x.back(1), -6);
        x.read(1, 5);
        x.backward(0);
        x.waits(30);
        Due.tell(x, "thing easy 1;thing easy 1;row 1 0;hold 7;");
        x.read(0, 9);
        x.feed(0x20202020, 0x20202020, 0x20202020, 0x20202020, 0x20202020);
        x.row(1, 0, 3);
        DUE.is("keep(0)", x.keep(0), 0);
        DUE.is("back(2)", x.back(2), 0);
        int[] due = {4, 2, 10, 20, 4, 2, 2, 100, 0, 0, 0, 100, 2};
        for (int what = 0; what < due.length; what++) {
            DUE.is("count(" + what + ")", x.count(what), due[what]);
        }
        DUE.is("strength(3, 0, 0)", x.strength(3, 0, 0), 46);
        DUE.is("strength(3, 1, 0)", x.strength(3, 1, 0), 0);
        DUE.is("used(0)", x.used(0), 5);
        DUE.is("sitting(1, 1)", x.sitting(1, 1), 2);
        DUE.is("law(0, 3, 0, 0)", x.law(0, 3, 0, 0), 10);
        DUE.is("needs(0)", x.needs(0), 7);
        x.waits(200);
        DUE.is("back(2) once more", x.back(2), 0);
        DUE.is("strength(3, 0, 0) once more", x.strength(3, 0, 0), 46);
        DUE.is("back(0)", x.back(0), 0);
        DUE.is("count(7)", x.count(7), 7);
        DUE.is("used(0)", x.used(0), 9);
        DUE.is("thing(0, 0)", x.thing(0, 0), 1);
    }

    private static void imagesOfBooks() {
        DUE.about("promises 41 and 42, the BOOK");
        NonsenseRows x = Due.told(STEADY);
        x.read(0, 3);
        x.keep(0);
        x.forget();
        x.read(1, 2);
        x.waits(9);
        x.keep(1);
        x.back(0);
        DUE.is("sitting(0, 0)", x.sitting(0, 0), 0);
        DUE.is("count(4)", x.count(4), 0);
        DUE.is("count(5)", x.count(5), 3);
        x.back(1);
        DUE.is("sitting(0, 0)", x.sitting(0, 0), 1);
        DUE.is("count(4)", x.count(4), 9);
        DUE.is("used(0)", x.used(0), 3);
        DUE.is("used(1)", x.used(1), 2);
        for (int i = 0; i < 60; i++) {
            x.read(0, 1);
        }
        x.keep(2);
        x.forget();
        DUE.is("fit", x.fit(0, 3, 0, 30, 0), 31);
        x.back(2);
        DUE.is("fit of a BOOK that lost one", x.fit(0, 3, 0, 30, 0), -5);
    }

    private static void row() {
        DUE.about("promise 43");
        NonsenseRows x = new NonsenseRows();
        DUE.is("row(0, 0, 60)", x.row(0, 0, 60), 0);
        DUE.is("row(3, 3, 0)", x.row(3, 3, 0), 0);
        DUE.is("count(12)", x.count(12), 2);
        DUE.is("row(0, 0, 61)", x.row(0, 0, 61), -2);
        DUE.is("row(0, 4, 1)", x.row(0, 4, 1), -2);
        DUE.is("row(0, -1, 1)", x.row(0, -1, 1), -2);
        DUE.is("row(4, 0, 1)", x.row(4, 0, 1), -2);
        DUE.is("row(-1, 0, 1)", x.row(-1, 0, 1), -2);
        DUE.is("row(4, 0, -1)", x.row(4, 0, -1), -2);
        DUE.is("row(0, 0, -1)", x.row(0, 0, -1), -3);
        DUE.is("row(1, 0, LEAST)", x.row(1, 0, LEAST), -3);
        DUE.is("row(1, 0, MOST)", x.row(1, 0, MOST), -2);
        DUE.is("count(12)", x.count(12), 2);
        DUE.is("write(0, 59, 1): it stays", x.write(0, 59, 1), 0);
        Due.tell(x, THINGS + "row 0 1;");
        x.row(0, 0, 2);
        x.write(0, 0, 3);
        x.row(0, 3, 2);
        x.write(0, 1, 2);
        DUE.is("rowOf(0): all 0 again", x.rowOf(0), 1);
        things(x, 1, 0, 2);
    }

    private static void write() {
        DUE.about("promise 44");
        NonsenseRows x = Due.told(THINGS + "row 0 1;");
        DUE.is("write(0, 0, 1)", x.write(0, 0, 1), -6);
        DUE.is("write(4, 0, 1)", x.write(4, 0, 1), -2);
        DUE.is("write(-1, 0, 1)", x.write(-1, 0, 1), -2);
        x.row(0, 1, 2);
        DUE.is("write(0, 2, 1)", x.write(0, 2, 1), -7);
        DUE.is("write(0, -1, 1)", x.write(0, -1, 1), -7);
        DUE.is("write(0, 1, 2)", x.write(0, 1, 2), 0);
        DUE.is("write(0, 0, 65539)", x.write(0, 0, 65539), 0);
        DUE.is("rowOf(0)", x.rowOf(0), 1);
        things(x, 1, 3, 2);
        x.row(1, 2, 2);
        x.write(1, 0, (1L << 32) + 1);
        DUE.is("rowOf(1)", x.rowOf(1), 2);
        things(x, 2, 1, 0);
        x.row(2, 2, 2);
        x.write(2, 0, 65537);
        DUE.is("rowOf(2)", x.rowOf(2), -2);
        x.row(2, 3, 2);
        x.write(2, 0, (1L << 32) + 1);
        DUE.is("rowOf(2)", x.rowOf(2), -2);
        x.row(2, 0, 0);
        DUE.is("write(2, 0, 0)", x.write(2, 0, 0), -7);
    }

    private static void paste() {
        DUE.about("promise 45");
        NonsenseRows x = Due.told(THINGS + "row 0 1;");
        x.row(0, 1, 4);
        x.row(1, 1, 4);
        x.row(2, 2, 4);
        DUE.is("paste to no SLOT", x.paste(0, 0, 4, 0, 1), -2);
        DUE.is("paste of no SLOT", x.paste(-1, 0, 0, 0, 1), -2);
        DUE.is("paste of none to nothing", x.paste(4, 0, 3, 0, 1), -2);
        DUE.is("paste to nothing", x.paste(0, 0, 3, 0, 1), -6);
        DUE.is("paste of nothing", x.paste(3, 0, 2, 0, 1), -6);
        DUE.is("paste of two WIDTHS", x.paste(0, 0, 2, 0, 1), -8);
        DUE.is("paste of two WIDTHS, beyond", x.paste(0, 9, 2, 0, 1), -8);
        for (int i = 0; i < 4; i++) {
            x.write(0, i, i);
        }
        DUE.is("n -1", x.paste(0, 0, 1, 0, -1), -7);
        DUE.is("i -1", x.paste(0, -1, 1, 0, 1), -7);
        DUE.is("k -1", x.paste(0, 0, 1, -1, 1), -7);
        DUE.is("beyond the one", x.paste(0, 1, 1, 0, 4), -7);
        DUE.is("beyond the other", x.paste(0, 0, 1, 1, 4), -7);
        DUE.is("far beyond", x.paste(0, MOST, 1, 0, MOST), -7);
        DUE.is("far beyond the other", x.paste(0, 1, 1, MOST, 1), -7);
        DUE.is("nothing of the end", x.paste(0, 4, 1, 4, 0), 0);
        DUE.is("rowOf(1): nothing happened", x.rowOf(1), -2);
        DUE.is("paste(0, 0, 1, 0, 4)", x.paste(0, 0, 1, 0, 4), 0);
        DUE.is("rowOf(1)", x.rowOf(1), 1);
        things(x, 1, 0, 1, 2, 3);
        x.row(1, 1, 3);
        DUE.is("paste(0, 1, 1, 0, 3)", x.paste(0, 1, 1, 0, 3), 0);
        DUE.is("rowOf(1)", x.rowOf(1), 2);
        things(x, 2, 1, 2, 3);
        pasteToItself();
    }

    /** Numbers that are both taken and put over are put as they were. */
    private static void pasteToItself() {
        NonsenseRows x = Due.told(THINGS + "row 0 1;");
        DUE.put(x, 0, 0, 3, 1, 2, 0);
        x.row(1, 0, 3);
        x.paste(0, 0, 0, 1, 3);
        x.paste(0, 1, 1, 0, 3);
        DUE.is("rowOf(1) put forth", x.rowOf(1), 1);
        things(x, 1, 3, 1, 2);
        DUE.put(x, 0, 0, 3, 1, 2, 0);
        x.paste(0, 1, 0, 0, 3);
        x.paste(0, 0, 1, 0, 3);
        DUE.is("rowOf(1) put back", x.rowOf(1), 2);
        things(x, 2, 1, 2, 0);
    }
}
