/** Each sentence of "Terms" V and of promises 26 to 29 that names an edge: at it, and just beyond. */
public final class EdgePlanTest {
    private static final Due DUE = new Due();
    private static final int MOST = Integer.MAX_VALUE;
    private static final int LEAST = Integer.MIN_VALUE;
    private static final int[] NO_ROWS = {-1, 2, 12, MOST, LEAST};
    private static final String THINGS = "thing easy 3;thing easy 1;thing easy 2;thing easy 0;";
    // 10 a READING and -1 an hour for each place: n READINGS, h hours: 10 n - h
    private static final String STEADY = THINGS + "row 0 1 2;row 1 0 3;hold 100;lean place 100;grow place by 10;fall place by 1;";

    public static void main(String[] args) {
        fitNumbers();
        fitLawAndWhat();
        fitHour();
        fitLost();
        fitNewRows();
        fitRefusedRows();
        fitOrder();
        fitReadings();
        fitNone();
        fitNoneWithout();
        fitOfNoLaw();
        fitAtTheirHours();
        daysRefused();
        daysLeftOver();
        daysHours();
        daysRows();
        daysReadings();
        daysOfSixty();
        daysLeftOutWhole();
        daysWraps();
        spreadRefused();
        spreadBounds();
        spreadTies();
        spreadFromThisHour();
        leftRefused();
        leftBounds();
        DUE.end("EdgePlanTest");
    }

    private static void fitNumbers() {
        DUE.about("26: 0 <= low <= high <= 1000, at most 30 apart; -2: there are none such numbers");
        NonsenseRows x = Due.told(STEADY);
        x.read(0, 2);
        int[][] good = {{0, 0, 1}, {0, 30, 31}, {1000, 1000, 1}, {970, 1000, 31}, {7, 7, 1}, {7, 8, 2}, {500, 530, 31}};
        for (int[] g : good) {
            DUE.onPaper(x, "from " + g[0] + " to " + g[1], () -> x.fit(0, 3, g[0], g[1], 0), g[2]);
            DUE.is("the least from " + g[0], x.fit(1, 0, g[0], g[1], 1), g[0]);
            DUE.is("the greatest to " + g[1], x.fit(1, 0, g[0], g[1], 2), g[1]);
        }
        int[][] bad = {{-1, 0}, {-1, 29}, {-1, -1}, {0, 31}, {969, 1000}, {500, 531}, {971, 1001}, {1001, 1001}, {8, 7}, {1000, 999}, {0, -1},
            {LEAST, MOST}, {MOST, LEAST}, {LEAST, LEAST}, {MOST, MOST}, {0, MOST}, {LEAST, 0}, {LEAST, LEAST + 30}, {MOST - 30, MOST}};
        for (int[] b : bad) {
            DUE.refused(x, "from " + b[0] + " to " + b[1], () -> x.fit(0, 3, b[0], b[1], 0), -2);
        }
    }

    private static void fitLawAndWhat() {
        DUE.about("26: -2: there are none such .. LAW (0 grow, 1 fall; a sort), what");
        NonsenseRows x = Due.told(STEADY);
        for (int law = 0; law < 2; law++) {
            for (int sort = 0; sort < 4; sort++) {
                DUE.is("law " + law + " of " + sort, x.fit(law, sort, 3, 5, 0), 3);
            }
        }
        for (int bad : new int[] {-1, 2, 3, 4, MOST, LEAST}) {
            DUE.refused(x, "law " + bad, () -> x.fit(bad, 0, 3, 5, 0), -2);
        }
        for (int bad : new int[] {-1, 4, MOST, LEAST}) {
            DUE.refused(x, "sort " + bad, () -> x.fit(0, bad, 3, 5, 0), -2);
        }
        for (int bad : new int[] {-1, 3, MOST, LEAST}) {
            DUE.refused(x, "what " + bad, () -> x.fit(0, 0, 3, 5, bad), -2);
        }
        DUE.is("what 0", x.fit(0, 0, 3, 5, 0), 3);
        DUE.is("what 1", x.fit(0, 0, 3, 5, 1), 3);
        DUE.is("what 2", x.fit(0, 0, 3, 5, 2), 5);
    }

    private static void fitHour() {
        DUE.about("26: -5: the hour is above 400");
        NonsenseRows x = Due.told(STEADY);
        x.waits(200);
        x.waits(199);
        DUE.is("hour 399", x.fit(0, 3, 0, 30, 0), 31);
        x.waits(1);
        DUE.is("hour 400", x.fit(0, 3, 0, 30, 0), 31);
        x.waits(1);
        DUE.refused(x, "hour 401", () -> x.fit(0, 3, 0, 30, 0), -5);
        DUE.refused(x, "hour 401, what 2", () -> x.fit(1, 0, 0, 0, 2), -5);
        x.waits(200);
        DUE.refused(x, "hour 601", () -> x.fit(0, 3, 0, 30, 0), -5);
        x.forget();
        DUE.is("hour 0 again", x.fit(0, 3, 0, 30, 0), 31);
    }

    private static void fitLost() {
        DUE.about("26: -5: .. or the BOOK lost a SITTING");
        NonsenseRows x = Due.told(STEADY);
        for (int i = 0; i < 60; i++) {
            x.read(i % 2, 1);
        }
        DUE.is("60 SITTINGS", x.fit(0, 3, 0, 30, 0), 31);
        x.keep(0);
        x.read(0, 1);
        DUE.refused(x, "61 SITTINGS", () -> x.fit(0, 3, 0, 30, 0), -5);
        x.keep(1);
        x.back(0);
        DUE.is("back to 60", x.fit(0, 3, 0, 30, 0), 31);
        x.learn(0);
        DUE.refused(x, "61 by learn()", () -> x.fit(0, 3, 0, 30, 0), -5);
        x.back(1);
        DUE.refused(x, "back to 61", () -> x.fit(0, 3, 0, 30, 0), -5);
        x.forget();
        DUE.is("forgotten", x.fit(0, 3, 0, 30, 0), 31);
        x.back(1);
        Due.tell(x, STEADY);
        DUE.is("another TEXT", x.fit(0, 3, 0, 30, 0), 31);
    }

    private static void fitNewRows() {
        DUE.about("26: -5: .. or the TEXT's ROWS were not all there at first (a ROW came by shuffled(), backward(), rowOf())");
        for (int way = 0; way < 3; way++) {
            NonsenseRows x = Due.told(STEADY);
            x.row(0, 0, 2);
            x.write(0, 1, 3);
            x.keep(0);
            DUE.is("at first", x.fit(0, 3, 0, 30, 0), 31);
            DUE.is("the new ROW", way == 0 ? x.shuffled(0, 1) : way == 1 ? x.backward(0) : x.rowOf(0), 2);
            DUE.refused(x, "with a ROW by way " + way, () -> x.fit(0, 3, 0, 30, 0), -5);
            x.keep(1);
            x.forget();
            DUE.refused(x, "behind forget(), way " + way, () -> x.fit(0, 3, 0, 30, 0), -5);
            x.back(0);
            DUE.is("back to the first", x.fit(0, 3, 0, 30, 0), 31);
            x.back(1);
            DUE.refused(x, "back to the new one", () -> x.fit(0, 3, 0, 30, 0), -5);
            Due.tell(x, THINGS + "row 0 1;row 1 2;row 2 3;");
            DUE.is("another TEXT of as many ROWS", x.fit(0, 3, 0, 30, 0), 31);
        }
    }

    private static void fitRefusedRows() {
        DUE.about("26: a ROW that did not come");
        NonsenseRows x = Due.told(STEADY);
        x.shuffled(0, 4);
        x.backward(2);
        x.rowOf(0);
        DUE.is("fit()", x.fit(0, 3, 0, 30, 0), 31);
        NonsenseRows y = Due.told("thing easy 1;thing easy 1;" + "row 0 1;".repeat(12));
        DUE.is("backward(0)", y.backward(0), -3);
        DUE.is("fit() of twelve", y.fit(0, 3, 0, 30, 0), 31);
    }

    private static void fitOrder() {
        DUE.about("26: -2, told first, ahead of -5");
        NonsenseRows x = Due.told(STEADY);
        x.backward(0);
        x.waits(200);
        x.waits(200);
        x.waits(1);
        DUE.is("law 2", x.fit(2, 0, 0, 30, 0), -2);
        DUE.is("31 apart", x.fit(0, 0, 0, 31, 0), -2);
        DUE.is("what 3", x.fit(0, 0, 0, 30, 3), -2);
        DUE.is("none of these", x.fit(0, 0, 0, 30, 2), -5);
    }

    private static void fitReadings() {
        DUE.about("26: with as many READINGS (learn() as often as it took)");
        NonsenseRows x = Due.told(STEADY);
        DUE.is("learn(0)", x.learn(0), 11);
        // 10 v is 100 or more, 9 v is not: 10, 11
        DUE.onPaper(x, "how many", () -> x.fit(0, 3, 0, 30, 0), 2);
        DUE.onPaper(x, "the least", () -> x.fit(0, 3, 0, 30, 1), 10);
        DUE.onPaper(x, "the greatest", () -> x.fit(0, 3, 0, 30, 2), 11);
        DUE.is("from 11", x.fit(0, 3, 11, 41, 0), 1);
        DUE.is("to 10", x.fit(0, 3, 0, 10, 0), 1);
        DUE.is("from 12", x.fit(0, 3, 12, 42, 0), 0);
        DUE.is("to 9", x.fit(0, 3, 0, 9, 0), 0);
        NonsenseRows y = Due.told(STEADY);
        y.read(0, 50);
        y.read(1, 1);
        DUE.is("read() fits all", y.fit(0, 3, 0, 30, 0), 31);
        NonsenseRows z = Due.told(STEADY);
        z.read(0, 8);
        DUE.is("learn(0) behind eight", z.learn(0), 3);
        // 10 v is 100 or more, 9 v is not
        DUE.is("how many behind read()", z.fit(0, 3, 0, 30, 0), 2);
        DUE.is("needs(1) by the LAW that is told", z.needs(1), 11);
        z.fit(0, 3, 1, 1, 0);
        DUE.is("fresh(1) by the LAW that is told", z.fresh(1), 11);
        z.fit(0, 3, 1, 1, 0);
        DUE.is("fit() of another LAW", z.fit(1, 3, 0, 30, 0), 31);
    }

    private static void fitNone() {
        DUE.about("26: NONE as NONE");
        NonsenseRows x = Due.told(THINGS + "row 0 1;hold 100;lean place 100;grow place by 2;");
        DUE.is("learn(0)", x.learn(0), -1);
        // 39 v is below 100: 0, 1, 2
        DUE.is("the greatest", x.fit(0, 3, 0, 30, 2), 2);
        DUE.is("how many", x.fit(0, 3, 0, 30, 0), 3);
        NonsenseRows y = Due.told(THINGS + "row 0 1;hold 117;lean place 100;grow place by 3;");
        DUE.is("learn(0)", y.learn(0), 40);
        // forty READINGS are not NONE
        DUE.is("the least", y.fit(0, 3, 0, 30, 1), 3);
        DUE.is("how many", y.fit(0, 3, 0, 30, 0), 1);
        NonsenseRows z = Due.told(THINGS + "row 0 1;hold 117;lean place 100;grow place by 3;");
        z.read(0, 40);
        DUE.is("read() of forty is not learn()", z.fit(0, 3, 0, 30, 0), 31);
    }

    private static void fitNoneWithout() {
        DUE.about("26: what 0 how many, 1 the least, 2 the greatest (NONE without)");
        NonsenseRows x = Due.told(STEADY);
        x.learn(0);
        DUE.is("how many", x.fit(0, 3, 500, 530, 0), 0);
        DUE.is("the least", x.fit(0, 3, 500, 530, 1), -1);
        DUE.is("the greatest", x.fit(0, 3, 500, 530, 2), -1);
    }

    private static void fitOfNoLaw() {
        DUE.about("26: a LAW that the TEXT does not tell");
        NonsenseRows x = Due.told(THINGS + "row 0 1;hold 100;lean place 100;lean next 100;grow place by 30;");
        // place alone: four and one; next leads to the second THING alone
        DUE.is("learn(0)", x.learn(0), 5);
        DUE.is("grow next", x.fit(0, 0, 0, 30, 0), 31);
        x.waits(10);
        DUE.is("learn(0)", x.learn(0), 2);
        // 150 less 10 v, and 30 more, is 100 or more: up to 8
        DUE.is("fall place", x.fit(1, 3, 0, 30, 2), 8);
        DUE.is("the LAW stays untold", x.law(1, 3, 500, 0), 0);
    }

    private static void fitAtTheirHours() {
        DUE.about("26: a HEAD as at first .. at their hours");
        NonsenseRows x = Due.told(THINGS + "row 0 1;hold 100;lean place 100;grow place by hour;fall place by 1;");
        x.waits(20);
        x.learn(0);
        x.waits(20);
        // 120 at hour 20, 100 at hour 40, which is 16
        DUE.is("learn(0)", x.learn(0), 2);
        // six READINGS at hour 20 are 100 .. 119 or more: 120 less 20 v, and 16, is 100 or more: 0, 1
        DUE.is("fall place, how many", x.fit(1, 3, 0, 30, 0), 2);
        DUE.is("fall place, the greatest", x.fit(1, 3, 0, 30, 2), 1);
        x.waits(200);
        DUE.is("hours behind the last SITTING", x.fit(1, 3, 0, 30, 0), 2);
    }

    // ---- days

    private static void daysRefused() {
        DUE.about("27: -2: there is no such SLOT; -6: it has nothing");
        NonsenseRows x = Due.told(STEADY);
        DUE.put(x, 0, 0, 1, 0, 1);
        for (int slot : new int[] {-1, 4, MOST, LEAST}) {
            DUE.refused(x, "days(" + slot + ")", () -> x.days(slot), -2);
        }
        for (int slot = 1; slot < 4; slot++) {
            int s = slot;
            DUE.refused(x, "days(" + slot + ")", () -> x.days(s), -6);
        }
        DUE.put(x, 3, 0, 1, 0, 1);
        DUE.is("days(3)", x.days(3), 1);
        DUE.is("days(0)", x.days(0), 1);
    }

    private static void daysLeftOver() {
        DUE.about("27: for each three numbers .. what is left over is not looked at");
        for (int n = 0; n <= 8; n++) {
            NonsenseRows x = Due.told(STEADY);
            x.row(0, 0, n);
            for (int i = 0; i < n; i++) {
                x.write(0, i, 1);
            }
            DUE.is("days(0) of " + n, x.days(0), n / 3);
            DUE.is("count(4) of " + n, x.count(4), n / 3);
            DUE.is("count(6) of " + n, x.count(6), n / 3);
            DUE.is("used(1) of " + n, x.used(1), n / 3);
        }
    }

    private static void daysHours() {
        DUE.about("27: waits() of the hours");
        NonsenseRows x = Due.told(STEADY);
        long[][] due = {{0, 1}, {1, 1}, {199, 1}, {200, 1}, {201, 0}, {-1, 0}, {MOST, 0}, {LEAST, 0}};
        for (long[] pair : due) {
            int before = x.count(4);
            DUE.put(x, 0, 3, pair[0], 0, 1);
            DUE.is("days(0) of " + pair[0] + " hours", x.days(0), pair[1]);
            DUE.is("count(4) behind " + pair[0], x.count(4) - before, pair[1] * pair[0]);
        }
    }

    private static void daysRows() {
        DUE.about("27: read() of the ROW");
        NonsenseRows x = Due.told(STEADY);
        long[][] due = {{0, 1}, {1, 1}, {2, 0}, {12, 0}, {-1, 0}, {MOST, 0}, {LEAST, 0}};
        for (long[] pair : due) {
            DUE.put(x, 0, 3, 1, pair[0], 1);
            DUE.is("days(0) of ROW " + pair[0], x.days(0), pair[1]);
            DUE.put(x, 0, 3, 1, pair[0], 0);
            DUE.is("days(0) of ROW " + pair[0] + ", LEARNT", x.days(0), pair[1]);
        }
        DUE.is("count(4)", x.count(4), 4);
        x.backward(0);
        DUE.put(x, 0, 3, 1, 2, 1);
        DUE.is("days(0) of a new ROW", x.days(0), 1);
    }

    private static void daysReadings() {
        DUE.about("27: READINGS; 0 READINGS: learn()");
        NonsenseRows x = Due.told(STEADY);
        DUE.put(x, 0, 1, 0, 0, 0, 0, 1, 1, 0, 1, 50, 0, 1, 51, 0, 1, -1);
        DUE.is("days(0)", x.days(0), 3);
        DUE.is("sitting(0, 1)", x.sitting(0, 1), 11);
        DUE.is("sitting(1, 1)", x.sitting(1, 1), 1);
        DUE.is("sitting(2, 1)", x.sitting(2, 1), 50);
        DUE.is("used(1)", x.used(1), 51);
        NonsenseRows y = Due.told(THINGS + "row 0 1;hold 1;");
        DUE.put(y, 0, 0, 1, 0, 0);
        DUE.is("days(0) of what can't be LEARNT: a SITTING", y.days(0), 1);
        DUE.is("used(0)", y.used(0), 40);
    }

    private static void daysOfSixty() {
        DUE.about("27: a full row: twenty SITTINGS; the BOOK has the latest 60");
        NonsenseRows x = Due.told(STEADY);
        x.row(0, 0, 60);
        for (int i = 0; i < 20; i++) {
            x.write(0, 3 * i, 1);
            x.write(0, 3 * i + 2, i + 1);
        }
        for (int times = 1; times <= 4; times++) {
            DUE.is("days(0), " + times, x.days(0), 20);
            DUE.is("count(6)", x.count(6), Math.min(20 * times, 60));
        }
        DUE.is("sitting(59, 1)", x.sitting(59, 1), 20);
        DUE.is("sitting(0, 2)", x.sitting(0, 2), 21);
        DUE.is("fit() of a BOOK that lost some", x.fit(0, 0, 0, 0, 0), -5);
    }

    private static void daysLeftOutWhole() {
        DUE.about("27: those of which one is refused left out whole");
        NonsenseRows x = Due.told(STEADY);
        x.read(0, 5);
        DUE.put(x, 0, 1, 201, 0, 1, 9, 2, 1, 9, 0, 51, -1, 0, 1, 9, -1, 1, 9, 0, -1);
        DUE.refused(x, "days(0)", () -> x.days(0), 0);
        DUE.put(x, 0, 1, 201, 0, 1, 9, 1, 2, 9, 2, 1, 4, 0, 3);
        DUE.is("days(0) with two of four", x.days(0), 2);
        DUE.is("count(4)", x.count(4), 13);
        DUE.is("sitting(1, 2)", x.sitting(1, 2), 9);
        DUE.is("sitting(2, 2)", x.sitting(2, 2), 13);
    }

    private static void daysWraps() {
        DUE.about("27: great numbers are not cut anew");
        NonsenseRows x = Due.told(STEADY);
        long far = 1L << 32;
        DUE.put(x, 0, 3, far, 0, 1, 1, far, 1, 1, 0, far, 1, 0, far + 1, -far, 0, 1, 1, far + 1, 1, Long.MAX_VALUE, 0, 1, Long.MIN_VALUE, 0, 1);
        DUE.refused(x, "days(0)", () -> x.days(0), 0);
        DUE.put(x, 0, 2, far, 0, 1, 1, far, 1, 1, 0, far + 2, 1, 1, -far);
        DUE.is("days(0) of four bytes", x.days(0), 4);
        DUE.is("count(4)", x.count(4), 3);
        // numbers of one byte are -128 .. 127
        DUE.put(x, 0, 0, 127, 0, 1, 128, 0, 1, 255, 0, 1, 256, 0, 1, -129, 0, 1, -1, 0, 1);
        DUE.is("days(0) of bytes", x.days(0), 3);
        DUE.is("count(4)", x.count(4), 3 + 127 + 127);
    }

    // ---- spread and left

    private static void spreadRefused() {
        DUE.about("28: n (1 .. 8), days (1 .. 4); NONE: there are none such");
        NonsenseRows x = Due.told(STEADY);
        for (int row : NO_ROWS) {
            DUE.refused(x, "spread(" + row + ", 1, 1)", () -> x.spread(row, 1, 1), -1);
        }
        for (int n : new int[] {0, -1, 9, MOST, LEAST}) {
            DUE.refused(x, "spread(0, " + n + ", 1)", () -> x.spread(0, n, 1), -1);
        }
        for (int days : new int[] {0, -1, 5, MOST, LEAST}) {
            DUE.refused(x, "spread(0, 1, " + days + ")", () -> x.spread(0, 1, days), -1);
        }
    }

    private static void spreadBounds() {
        DUE.about("28: a number whose digits are READINGS of each day, the first first");
        // the less tired, the better: each day's k-th READING is worth 110 - 20 k
        NonsenseRows x = Due.told(THINGS + "row 0 1;row 2 3;lean place 100;grow place by 90 minus tired times 20;");
        int[][] due = {{1, 1, 1}, {8, 1, 8}, {1, 4, 1000}, {2, 4, 1100}, {3, 4, 1110}, {4, 4, 1111}, {5, 4, 2111}, {8, 4, 2222}, {8, 2, 44},
            {7, 3, 322}, {8, 3, 332}, {2, 2, 11}};
        for (int[] d : due) {
            DUE.onPaper(x, "spread(0, " + d[0] + ", " + d[1] + ")", () -> x.spread(0, d[0], d[1]), d[2]);
            DUE.onPaper(x, "spread(1, " + d[0] + ", " + d[1] + ")", () -> x.spread(1, d[0], d[1]), d[2]);
        }
        // a day takes away: all on the last day
        NonsenseRows y = Due.told(THINGS + "row 0 1;lean place 100;grow place by 100;fall place by 1;");
        DUE.onPaper(y, "spread(0, 8, 4)", () -> y.spread(0, 8, 4), 8);
        DUE.onPaper(y, "spread(0, 1, 2)", () -> y.spread(0, 1, 2), 1);
    }

    private static void spreadTies() {
        DUE.about("V: most: of several plans that with more on the first day, then on the second, ..");
        NonsenseRows x = Due.told(THINGS + "row 0 1;");
        DUE.is("spread(0, 8, 4)", x.spread(0, 8, 4), 8000);
        DUE.is("spread(0, 1, 4)", x.spread(0, 1, 4), 1000);
        DUE.is("spread(0, 8, 1)", x.spread(0, 8, 1), 8);
        // today is spent: nothing grows any more at tired 1, whatever comes on the second day or the third
        NonsenseRows y = Due.told(THINGS + "row 0 1;lean place 100;grow place by 100 minus tired times 100;");
        y.read(0, 1);
        DUE.is("spread(0, 1, 3)", y.spread(0, 1, 3), 10);
        DUE.is("spread(0, 3, 3)", y.spread(0, 3, 3), 111);
        NonsenseRows z = Due.told(THINGS + "row 0 1;lean place 100;grow place by 1000;");
        DUE.is("one is enough: all on the first", z.spread(0, 4, 3), 400);
    }

    private static void spreadFromThisHour() {
        DUE.about("V: days (24 hours each, from this hour on), at the day's first hour; 24 hours behind the last day's READINGS");
        NonsenseRows x = Due.told(THINGS + "row 0 1;lean place 100;grow place by hour times 10;fall place by 1;");
        x.waits(5);
        // 50 each, at hours 5, 29, 53 alike; 24 of it go by a day
        DUE.is("left(0, 1, 1, 0)", x.left(0, 1, 1, 0), 2 * 26);
        DUE.is("left(0, 1, 1, 1)", x.left(0, 1, 1, 1), 2 * 26);
        DUE.is("left(0, 1, 2, 1)", x.left(0, 1, 2, 1), 2 * 2);
        DUE.is("left(0, 1, 2, 2)", x.left(0, 1, 2, 2), 2 * 26);
        DUE.is("left(0, 1, 3, 1)", x.left(0, 1, 3, 1), 0);
        DUE.is("left(0, 2, 3, 2)", x.left(0, 2, 3, 2), 2 * 76);
        DUE.is("left(0, 1, 4, 2)", x.left(0, 1, 4, 2), 2 * 26);
        NonsenseRows y = Due.told(THINGS + "row 0 1;lean place 100;grow place by 100;fall place by hour over 23;");
        y.waits(24);
        DUE.is("one hour 23 a day", y.left(0, 1, 4, 1), 2 * 96);
        DUE.is("one hour 23 on the last day", y.left(0, 1, 4, 2), 2 * 99);
    }

    private static void leftRefused() {
        DUE.about("29: NONE likewise, another what");
        NonsenseRows x = Due.told(STEADY);
        for (int what = 0; what < 3; what++) {
            int w = what;
            for (int row : NO_ROWS) {
                DUE.refused(x, "left(" + row + ", 1, 1, " + w + ")", () -> x.left(row, 1, 1, w), -1);
            }
            for (int n : new int[] {0, -1, 9, MOST, LEAST}) {
                DUE.refused(x, "left(0, " + n + ", 1, " + w + ")", () -> x.left(0, n, 1, w), -1);
            }
            for (int days : new int[] {0, -1, 5, MOST, LEAST}) {
                DUE.refused(x, "left(0, 1, " + days + ", " + w + ")", () -> x.left(0, 1, days, w), -1);
            }
        }
        for (int what : new int[] {-1, 3, MOST, LEAST}) {
            DUE.refused(x, "left(0, 1, 1, " + what + ")", () -> x.left(0, 1, 1, what), -1);
        }
    }

    private static void leftBounds() {
        DUE.about("29: by SPREAD's plan (what 0), by all on the first day (1), by all on the last (2)");
        NonsenseRows x = Due.told(THINGS + "row 0 1;row 2 3 0;lean place 100;grow place by 90 minus tired times 20;");
        // 90 70 50 30 10 -10 -30 -50 on one day
        DUE.onPaper(x, "left(0, 8, 1, 0)", () -> x.left(0, 8, 1, 0), 2 * 160);
        DUE.onPaper(x, "left(0, 8, 1, 1)", () -> x.left(0, 8, 1, 1), 2 * 160);
        DUE.onPaper(x, "left(0, 8, 1, 2)", () -> x.left(0, 8, 1, 2), 2 * 160);
        DUE.onPaper(x, "left(0, 8, 4, 0)", () -> x.left(0, 8, 4, 0), 2 * 640);
        DUE.onPaper(x, "left(0, 8, 4, 1)", () -> x.left(0, 8, 4, 1), 2 * 160);
        DUE.onPaper(x, "left(0, 8, 4, 2)", () -> x.left(0, 8, 4, 2), 2 * 160);
        DUE.onPaper(x, "left(1, 1, 1, 0), the last ROW", () -> x.left(1, 1, 1, 0), 3 * 90);
        x.read(0, 4);
        // today is tired: 10 behind four; the last day's are not, but for one day, which is today
        DUE.onPaper(x, "left(0, 1, 1, 2)", () -> x.left(0, 1, 1, 2), 2 * 250);
        DUE.onPaper(x, "left(0, 1, 2, 1)", () -> x.left(0, 1, 2, 1), 2 * 250);
        DUE.onPaper(x, "left(0, 1, 2, 2)", () -> x.left(0, 1, 2, 2), 2 * 330);
        NonsenseRows z = Due.told(THINGS + "row 0 1;row 2 1 0;lean place 100;lean next 100;grow place by 10;grow next by 1;");
        z.read(1, 3);
        // place 0, 2 and next 1, 0 are no part of ROW 0: 10, and 30 and 10 and 1
        DUE.onPaper(z, "left(0, 1, 1, 1), its THINGS alone", () -> z.left(0, 1, 1, 1), 51);
        DUE.onPaper(z, "left(0, 1, 1, 0), its THINGS alone", () -> z.left(0, 1, 1, 0), 51);
        NonsenseRows y = Due.told(THINGS + "row 0 1;");
        DUE.onPaper(y, "left(0, 8, 4, 0) of nothing", () -> y.left(0, 8, 4, 0), 0);
    }
}
