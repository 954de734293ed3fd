/** Promises 26 to 29: the law that fits the book, days out of a slot, readings spread over days. */
public final class PlanTest {
    private static final Due DUE = new Due();
    private static final int MOST = Integer.MAX_VALUE;
    private static final String THINGS = "thing easy 3;thing easy 1;thing easy 2;thing easy 0;";
    private static final String STEADY = THINGS + "row 0 1 2;row 1 0 3;hold 100;lean place 100;grow place by 10;fall place by 1;";

    public static void main(String[] args) {
        fitGrow();
        fitFall();
        fitRefused();
        fitNone();
        days();
        daysOfWidths();
        spread();
        spreadTies();
        left();
        DUE.end("PlanTest");
    }

    private static void fitGrow() {
        DUE.about("promise 26, grow");
        NonsenseRows x = Due.told(STEADY);
        DUE.is("fit of an empty BOOK", x.fit(0, 3, 0, 30, 0), 31);
        x.read(0, 3);
        DUE.is("fit of read() alone", x.fit(0, 3, 0, 30, 0), 31);
        x.learn(0);
        // 3 and 8 READINGS: 10 times v is 100 or more, 9 times is not: 10 and 11
        DUE.is("what 0", x.fit(0, 3, 0, 30, 0), 2);
        DUE.is("what 1", x.fit(0, 3, 0, 30, 1), 10);
        DUE.is("what 2", x.fit(0, 3, 0, 30, 2), 11);
        DUE.is("what 1 from 11 on", x.fit(0, 3, 11, 41, 1), 11);
        DUE.is("what 0 of others", x.fit(0, 3, 12, 42, 0), 0);
        DUE.is("what 1 of others", x.fit(0, 3, 12, 42, 1), -1);
        DUE.is("what 2 of others", x.fit(0, 3, 12, 42, 2), -1);
        DUE.is("another LAW", x.fit(0, 0, 970, 1000, 0), 31);
        DUE.is("one number", x.fit(0, 3, 10, 10, 0), 1);
        DUE.is("law(0, 3, 0, 0) stays", x.law(0, 3, 0, 0), 10);
        x.waits(30);
        x.learn(1);
        DUE.is("what 0 with another ROW", x.fit(0, 3, 0, 30, 0), 2);
        // 110 less 30 is 80: three; 121 less 30 is 91: two
        DUE.is("learn(0)", x.learn(0), 3);
        DUE.is("what 0 behind some hours", x.fit(0, 3, 0, 30, 0), 1);
        DUE.is("what 2 behind some hours", x.fit(0, 3, 0, 30, 2), 10);
    }

    private static void fitFall() {
        DUE.about("promise 26, fall");
        NonsenseRows x = Due.told(STEADY);
        x.learn(0);
        x.waits(20);
        // 110 less 20 is 90: one and one; up to 1 an hour: 2 READINGS
        DUE.is("learn(0)", x.learn(0), 2);
        DUE.is("what 0", x.fit(1, 3, 0, 30, 0), 2);
        DUE.is("what 2", x.fit(1, 3, 0, 30, 2), 1);
        x.waits(11);
        DUE.is("learn(0)", x.learn(0), 2);
        DUE.is("what 1", x.fit(1, 3, 0, 30, 1), 0);
    }

    private static void fitRefused() {
        DUE.about("promise 26, refused");
        NonsenseRows x = Due.told(STEADY);
        DUE.is("law 2", x.fit(2, 0, 0, 30, 0), -2);
        DUE.is("law -1", x.fit(-1, 0, 0, 30, 0), -2);
        DUE.is("sort 4", x.fit(0, 4, 0, 30, 0), -2);
        DUE.is("sort -1", x.fit(0, -1, 0, 30, 0), -2);
        DUE.is("low -1", x.fit(0, 0, -1, 20, 0), -2);
        DUE.is("low above high", x.fit(0, 0, 5, 4, 0), -2);
        DUE.is("high 1001", x.fit(0, 0, 990, 1001, 0), -2);
        DUE.is("31 apart", x.fit(0, 0, 0, 31, 0), -2);
        DUE.is("far apart", x.fit(0, 0, Integer.MIN_VALUE, MOST, 0), -2);
        DUE.is("what 3", x.fit(0, 0, 0, 30, 3), -2);
        DUE.is("what -1", x.fit(0, 0, 0, 30, -1), -2);
        x.waits(200);
        DUE.is("hour 400", x.waits(200), 400);
        DUE.is("fit at hour 400", x.fit(0, 0, 0, 30, 0), 31);
        x.waits(1);
        DUE.is("fit at hour 401", x.fit(0, 0, 0, 30, 0), -5);
        DUE.is("law 2 at hour 401", x.fit(2, 0, 0, 30, 0), -2);
        x.forget();
        DUE.is("fit behind forget()", x.fit(0, 0, 0, 30, 0), 31);
        x.keep(0);
        x.backward(0);
        DUE.is("fit with a new ROW", x.fit(0, 0, 0, 30, 0), -5);
        x.forget();
        DUE.is("fit with it behind forget()", x.fit(0, 0, 0, 30, 0), -5);
        x.back(0);
        DUE.is("fit without it", x.fit(0, 0, 0, 30, 0), 31);
        for (int i = 0; i < 60; i++) {
            x.read(0, 1);
        }
        DUE.is("fit with 60 SITTINGS", x.fit(0, 0, 0, 30, 0), 31);
        x.read(0, 1);
        DUE.is("fit with one lost", x.fit(0, 0, 0, 30, 0), -5);
        x.back(0);
        x.row(0, 0, 2);
        x.write(0, 1, 1);
        DUE.is("fit", x.fit(0, 0, 0, 30, 0), 31);
        x.rowOf(0);
        DUE.is("fit with a ROW of a SLOT", x.fit(0, 0, 0, 30, 0), -5);
        x.back(0);
        x.shuffled(0, 1);
        DUE.is("fit with a shuffled ROW", x.fit(0, 0, 0, 30, 0), -5);
    }

    private static void fitNone() {
        DUE.about("promise 26, NONE as NONE");
        NonsenseRows x = Due.told(THINGS + "row 0 1;hold 100;lean place 100;grow place by 2;");
        DUE.is("learn(0)", x.learn(0), -1);
        // 39 times v is below 100: 0, 1, 2
        DUE.is("what 0", x.fit(0, 3, 0, 30, 0), 3);
        DUE.is("what 2", x.fit(0, 3, 0, 30, 2), 2);
        NonsenseRows y = Due.told(THINGS + "row 0 1;hold 117;lean place 100;grow place by 3;");
        DUE.is("learn(0)", y.learn(0), 40);
        DUE.is("what 0", y.fit(0, 3, 0, 30, 0), 1);
        DUE.is("what 1", y.fit(0, 3, 0, 30, 1), 3);
    }

    private static void days() {
        DUE.about("promise 27");
        NonsenseRows x = Due.told(STEADY);
        DUE.is("days(0)", x.days(0), -6);
        DUE.is("days(4)", x.days(4), -2);
        DUE.is("days(-1)", x.days(-1), -2);
        x.row(0, 0, 0);
        DUE.is("days(0) of an empty row", x.days(0), 0);
        x.read(0, 1);
        DUE.put(x, 0, 1, 5, 0, 2, 3, 1, 0, 9, 9);
        DUE.is("days(0)", x.days(0), 2);
        DUE.is("count(4)", x.count(4), 8);
        DUE.is("count(6)", x.count(6), 3);
        DUE.is("sitting(1, 0)", x.sitting(1, 0), 0);
        DUE.is("sitting(1, 1)", x.sitting(1, 1), 2);
        DUE.is("sitting(1, 2)", x.sitting(1, 2), 5);
        DUE.is("sitting(2, 0)", x.sitting(2, 0), 1);
        DUE.is("sitting(2, 1)", x.sitting(2, 1), 11);
        DUE.is("sitting(2, 2)", x.sitting(2, 2), 8);
        DUE.put(x, 0, 2, 201, 0, 1, 1, 2, 1, 1, 0, 51, -1, 0, 1, 1, -1, 1, 1, 0, -1, 2, 0, 50);
        DUE.is("days(0) with refused ones", x.days(0), 1);
        DUE.is("count(4)", x.count(4), 10);
        DUE.is("used(0)", x.used(0), 53);
        DUE.put(x, 0, 3, 1L << 32, 0, 1, 1, 1L << 32, 1, 1, 0, 1L << 32, 200, 1, 1);
        DUE.is("days(0) of great numbers", x.days(0), 1);
        DUE.is("count(4)", x.count(4), 210);
    }

    private static void daysOfWidths() {
        DUE.about("promise 27, WIDTHS");
        NonsenseRows x = Due.told(STEADY);
        DUE.put(x, 0, 0, 127, 0, 1, 128, 0, 1, 256 + 3, 0, 1);
        DUE.is("days(0) of bytes", x.days(0), 2);
        DUE.is("count(4)", x.count(4), 130);
        DUE.put(x, 0, 1, 65536 + 4, 1, 65536);
        DUE.is("days(0) of two bytes", x.days(0), 1);
        DUE.is("count(4)", x.count(4), 134);
        DUE.put(x, 0, 2, (7L << 32) + 6, 1, 1);
        DUE.is("days(0) of four bytes", x.days(0), 1);
        DUE.is("count(4)", x.count(4), 140);
        NonsenseRows y = new NonsenseRows();
        DUE.put(y, 2, 0, 1, 0, 1);
        DUE.is("days(2) without ROWS", y.days(2), 0);
        DUE.is("count(4) left out whole", y.count(4), 0);
        NonsenseRows z = Due.told(THINGS + "row 0 1;hold 1;");
        DUE.put(z, 2, 0, 1, 0, 0);
        DUE.is("days(2) of what can't be LEARNT", z.days(2), 1);
        DUE.is("sitting(0, 1)", z.sitting(0, 1), 40);
    }

    private static void spread() {
        DUE.about("promise 28");
        // A day takes a quarter of what is there: all on the last day leaves most.
        NonsenseRows x = Due.told(THINGS + "row 0 1;lean place 100;grow place by 80;fall place by has over 40;");
        DUE.is("spread(0, 3, 3)", x.spread(0, 3, 3), 3);
        DUE.is("spread(0, 1, 1)", x.spread(0, 1, 1), 1);
        DUE.is("spread(0, 8, 4)", x.spread(0, 8, 4), 8);
        DUE.is("spread(0, 0, 1)", x.spread(0, 0, 1), -1);
        DUE.is("spread(0, 9, 1)", x.spread(0, 9, 1), -1);
        DUE.is("spread(0, 1, 0)", x.spread(0, 1, 0), -1);
        DUE.is("spread(0, 1, 5)", x.spread(0, 1, 5), -1);
        DUE.is("spread(1, 1, 1)", x.spread(1, 1, 1), -1);
        DUE.is("spread(-1, 1, 1)", x.spread(-1, 1, 1), -1);
        // The more tired, the less: each day's first READING counts for 100, the second for 0.
        NonsenseRows y = Due.told(THINGS + "row 0 1;lean place 100;grow place by 100 minus tired times 100;");
        DUE.is("spread(0, 3, 3)", y.spread(0, 3, 3), 111);
        DUE.is("spread(0, 2, 3)", y.spread(0, 2, 3), 110);
        y.read(0, 1);
        // today's would do nothing
        DUE.is("spread(0, 2, 3) tired", y.spread(0, 2, 3), 11);
        DUE.is("spread(0, 3, 3) tired", y.spread(0, 3, 3), 111);
        // the second and third READING of a day take away what the first gave, in part
        NonsenseRows z = Due.told(THINGS + "row 0 1;lean place 100;grow place by 100 minus tired times 60;");
        DUE.is("spread(0, 4, 2)", z.spread(0, 4, 2), 22);
        DUE.is("spread(0, 5, 4)", z.spread(0, 5, 4), 2111);
    }

    private static void spreadTies() {
        DUE.about("promise 28, of several");
        NonsenseRows x = Due.told(THINGS + "row 0 1;lean place 100;grow place by 10;");
        DUE.is("spread(0, 8, 4)", x.spread(0, 8, 4), 8000);
        DUE.is("spread(0, 5, 2)", x.spread(0, 5, 2), 50);
        NonsenseRows y = Due.told(THINGS + "row 0 1;");
        DUE.is("spread(0, 3, 3) with no LEAN", y.spread(0, 3, 3), 300);
        DUE.is("left(0, 3, 3, 0) with no LEAN", y.left(0, 3, 3, 0), 0);
    }

    private static void left() {
        DUE.about("promise 29");
        NonsenseRows x = Due.told(THINGS + "row 0 1;lean place 50;grow place by 99 minus tired times 20;fall place by 1;");
        // two on a day 178; a day takes 24; each of two THINGS by 50 in 100, cut
        DUE.is("left(0, 2, 2, 1)", x.left(0, 2, 2, 1), 130);
        DUE.is("left(0, 2, 2, 2)", x.left(0, 2, 2, 2), 154);
        // 99 - 24 + 99 - 24 is 150
        DUE.is("left(0, 2, 2, 0)", x.left(0, 2, 2, 0), 154);
        DUE.is("spread(0, 2, 2)", x.spread(0, 2, 2), 2);
        DUE.is("left(0, 1, 1, 0)", x.left(0, 1, 1, 0), 74);
        DUE.is("left(0, 1, 1, 1)", x.left(0, 1, 1, 1), 74);
        DUE.is("left(0, 1, 1, 2)", x.left(0, 1, 1, 2), 74);
        DUE.is("left(0, 2, 2, 3)", x.left(0, 2, 2, 3), -1);
        DUE.is("left(0, 2, 2, -1)", x.left(0, 2, 2, -1), -1);
        DUE.is("left(0, 0, 2, 0)", x.left(0, 0, 2, 0), -1);
        DUE.is("left(0, 9, 2, 1)", x.left(0, 9, 2, 1), -1);
        DUE.is("left(0, 1, 0, 2)", x.left(0, 1, 0, 2), -1);
        DUE.is("left(0, 1, 5, 2)", x.left(0, 1, 5, 2), -1);
        DUE.is("left(1, 1, 1, 1)", x.left(1, 1, 1, 1), -1);
        DUE.is("left(-1, 1, 1, 1)", x.left(-1, 1, 1, 1), -1);
        x.waits(3);
        x.read(0, 1);
        // from what is there: 99 and 79, less 24
        DUE.is("left(0, 1, 1, 1) from now on", x.left(0, 1, 1, 1), 154);
        // 99 less 24, and 99 then, less 24
        DUE.is("left(0, 1, 2, 2) from now on", x.left(0, 1, 2, 2), 150);
        DUE.is("count(4)", x.count(4), 3);
    }
}
