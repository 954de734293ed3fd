/** Each sentence of "Terms" II to IV and of promises 6 to 12 and 38 to 40 that names an edge: at it, and just beyond. */
public final class EdgeHeadTest {
    private static final Due DUE = new Due();
    private static final int NOTHING = -2000000000;
    private static final int MOST = Integer.MAX_VALUE;
    private static final int LEAST = Integer.MIN_VALUE;
    private static final String THINGS = "thing easy 3;thing easy 1;thing easy 2;thing easy 0;";
    private static final String MILLIARD = "1000 times 1000 times 1000";

    public static void main(String[] args) {
        strengthFull();
        strengthEmpty();
        belowZeroTheOtherWay();
        easyOfWhichThing();
        tiredOfWholeReadings();
        hourWraps();
        overIsCut();
        beyondTheMilliard();
        dividedByZero();
        withoutALaw();
        firstThingsOfAReading();
        mixOfThoseThatAreThere();
        hourThatGoesBy();
        supportIsCut();
        slipBelowHold();
        twoOneAfterTheOther();
        fortyAtMost();
        latestSixty();
        readBounds();
        learnBounds();
        learnOfForty();
        waitsBounds();
        strengthBounds();
        linksBounds();
        supportBounds();
        slipsBounds();
        slipsOfTwelve();
        forgetAll();
        lawBounds();
        countBounds();
        DUE.end("EdgeHeadTest");
    }

    // ---- Terms II

    private static void strengthFull() {
        DUE.about("II: STRENGTH .. at most 1000");
        for (int by : new int[] {499, 500, 501}) {
            NonsenseRows x = Due.told(THINGS + "row 0 1;grow next by " + by + ";grow place by " + by + ";");
            x.read(0, 2);
            DUE.is("next by twice " + by, x.strength(0, 0, 1), Math.min(2 * by, 1000));
            DUE.is("place by twice " + by, x.strength(3, 1, 1), Math.min(2 * by, 1000));
            x.read(0, 50);
            DUE.is("next by " + by + " often", x.strength(0, 0, 1), 1000);
        }
        NonsenseRows y = Due.told(THINGS + "row 0 1;grow back by " + MILLIARD + ";grow next by left;grow place by left plus 1;");
        y.read(0, 1);
        DUE.is("back by a milliard", y.strength(1, 1, 0), 1000);
        DUE.is("next by all that is left", y.strength(0, 0, 1), 1000);
        DUE.is("place by one more", y.strength(3, 0, 0), 1000);
    }

    private static void strengthEmpty() {
        DUE.about("II: STRENGTH .. at least 0 (0 at first: none)");
        for (int by : new int[] {99, 100, 101}) {
            NonsenseRows x = Due.told(THINGS + "row 0 1;grow next by 100;fall next by " + by + ";");
            x.read(0, 1);
            x.waits(1);
            DUE.is("100 less " + by, x.strength(0, 0, 1), Math.max(100 - by, 0));
            DUE.is("links(0) of 100 less " + by, x.links(0), by < 100 ? 1 : 0);
            DUE.is("forget() of 100 less " + by, x.forget(), by < 100 ? 1 : 0);
        }
        for (int by : new int[] {99, 100, 101}) {
            NonsenseRows x = Due.told(THINGS + "row 0 1;row 0 2;grow next by 100;mix next by " + by + ";");
            x.read(0, 1);
            x.read(1, 1);
            DUE.is("100 mixed by " + by, x.strength(0, 0, 1), Math.max(100 - by, 0));
            DUE.is("links(0) mixed by " + by, x.links(0), by < 100 ? 2 : 1);
        }
        NonsenseRows y = Due.told(THINGS + "row 0 1;grow next by 0;grow place by 0 minus " + MILLIARD + ";grow back by 1;");
        y.read(0, 3);
        DUE.is("grown by 0: no LINK", y.links(0), 0);
        DUE.is("grown by less than 0: no LINK", y.links(3), 0);
        DUE.is("grown by 1: a LINK", y.links(1), 1);
    }

    private static void belowZeroTheOtherWay() {
        DUE.about("II: what is below 0 does so the other way");
        NonsenseRows x = Due.told(THINGS + "row 0 1;row 0 2;row 3 2;grow next by 600 minus tired times 400;fall next by 0 minus 1;"
            + "mix next by 0 minus 100;");
        x.read(0, 1);
        DUE.is("by 600", x.strength(0, 0, 1), 600);
        x.read(0, 1);
        DUE.is("by 200", x.strength(0, 0, 1), 800);
        x.read(0, 1);
        DUE.is("by -200", x.strength(0, 0, 1), 600);
        x.read(0, 1);
        DUE.is("by -600", x.strength(0, 0, 1), 0);
        x.waits(1);
        DUE.is("what is not there does not rise", x.strength(0, 0, 1), 0);
        x.read(0, 1);
        x.waits(1);
        DUE.is("an hour lifts by 1", x.strength(0, 0, 1), 601);
        x.read(1, 1);
        DUE.is("mix lifts by 100", x.strength(0, 0, 1), 701);
        x.waits(200);
        DUE.is("200 hours", x.strength(0, 0, 1), 901);
        x.waits(98);
        DUE.is("98 more", x.strength(0, 0, 1), 999);
        x.waits(1);
        DUE.is("one more", x.strength(0, 0, 1), 1000);
        x.waits(1);
        DUE.is("lifted to 1000 at most", x.strength(0, 0, 1), 1000);
    }

    private static void easyOfWhichThing() {
        DUE.about("II: easy: that of the THING to which it leads (of place: of the THING)");
        NonsenseRows x = Due.told("thing easy 1;thing easy 2;thing easy 4;thing easy 8;row 0 1 2;row 0 3;grow next by easy times 10;"
            + "grow back by easy times 10;grow off by easy times 10;grow place by easy times 10;fall next by easy;fall back by easy;"
            + "fall off by easy;fall place by easy;mix next by easy;");
        x.read(0, 1);
        DUE.is("next 0, 1 goes by 1", x.strength(0, 0, 1), 20);
        DUE.is("back 1, 0 goes by 0", x.strength(1, 1, 0), 10);
        DUE.is("off 0, 2 goes by 2", x.strength(2, 0, 2), 40);
        DUE.is("place 2, 2 goes by 2", x.strength(3, 2, 2), 40);
        x.read(1, 1);
        DUE.is("mix goes by the numbers of c", x.strength(0, 0, 1), 18);
        x.waits(1);
        DUE.is("next 0, 1 falls by 1's", x.strength(0, 0, 1), 16);
        DUE.is("back 1, 0 falls by 0's", x.strength(1, 1, 0), 9);
        DUE.is("off 0, 2 falls by 2's", x.strength(2, 0, 2), 36);
        DUE.is("place 2, 2 falls by 2's", x.strength(3, 2, 2), 36);
    }

    private static void tiredOfWholeReadings() {
        DUE.about("II: tired: READINGS (of all ROWS) that were whole since an hour went by");
        NonsenseRows x = Due.told(THINGS + "row 0 1;row 2 3;grow place by tired;");
        x.read(0, 1);
        DUE.is("the first is not whole", x.strength(3, 1, 1), 0);
        x.read(0, 1);
        DUE.is("one is whole", x.strength(3, 1, 1), 1);
        x.read(1, 1);
        DUE.is("of all ROWS", x.strength(3, 3, 1), 2);
        DUE.is("count(5)", x.count(5), 3);
        x.waits(0);
        DUE.is("count(5) with no hour", x.count(5), 3);
        x.waits(1);
        DUE.is("count(5) with an hour", x.count(5), 0);
        x.read(0, 1);
        DUE.is("none since", x.strength(3, 1, 1), 1);
        x.read(0, 50);
        x.read(1, 50);
        DUE.is("count(5) of many", x.count(5), 101);
    }

    private static void hourWraps() {
        DUE.about("II: hour: the hour modulo 24");
        NonsenseRows x = Due.told(THINGS + "row 0 1;grow place by hour;");
        int[] hours = {0, 1, 22, 23, 24, 25, 47, 48, 199, 200};
        for (int hour : hours) {
            x.forget();
            x.waits(hour);
            DUE.is("law(0, 3, 0, 0) at hour " + hour, x.law(0, 3, 0, 0), hour % 24);
            DUE.is("count(4)", x.count(4), hour);
            x.read(0, 1);
            DUE.is("place 0, 0 read at hour " + hour, x.strength(3, 0, 0), hour % 24);
        }
    }

    private static void overIsCut() {
        DUE.about("II: over is cut towards 0");
        NonsenseRows x = Due.told("thing easy 2;grow next by has over 10;fall next by 0 minus has over 10;grow back by has over 10 times 10;"
            + "fall back by 7 over 2 over 2;grow off by 999 over 1000;fall off by 1000 over 1000;");
        DUE.is("9 over 10", x.law(0, 0, 9, 0), 0);
        DUE.is("10 over 10", x.law(0, 0, 10, 0), 1);
        DUE.is("19 over 10", x.law(0, 0, 19, 0), 1);
        DUE.is("0 minus 19 over 10", x.law(1, 0, 19, 0), -1);
        DUE.is("0 minus 20 over 10", x.law(1, 0, 20, 0), -2);
        DUE.is("19 over 10 times 10", x.law(0, 1, 19, 0), 10);
        DUE.is("7 over 2 over 2", x.law(1, 1, 0, 0), 1);
        DUE.is("999 over 1000", x.law(0, 2, 0, 0), 0);
        DUE.is("1000 over 1000", x.law(1, 2, 0, 0), 1);
    }

    private static void beyondTheMilliard() {
        DUE.about("II: it comes to 0, if a number on the way is beyond 1,000,000,000 either way");
        NonsenseRows x = Due.told("thing easy 2;grow next by " + MILLIARD + ";grow back by " + MILLIARD + " plus has;grow off by 0 minus "
            + MILLIARD + " minus has;grow place by " + MILLIARD + " times has over 1000;fall next by 7 plus " + MILLIARD + " plus 0 minus 8;"
            + "fall back by has plus " + MILLIARD + " minus 10;fall off by 0 minus has minus " + MILLIARD + " plus 10;"
            + "fall place by " + MILLIARD + " over 1000 times has times 1;mix next by 1 over has plus " + MILLIARD + " times 2;");
        DUE.is("the milliard", x.law(0, 0, 0, 0), 1000000000L);
        DUE.is("the milliard plus 0", x.law(0, 1, 0, 0), 1000000000L);
        DUE.is("the milliard plus 1", x.law(0, 1, 1, 0), 0);
        DUE.is("the other way", x.law(0, 2, 0, 0), -1000000000L);
        DUE.is("the other way, minus 1", x.law(0, 2, 1, 0), 0);
        DUE.is("times 1 on the way", x.law(0, 3, 1, 0), 1000000L);
        DUE.is("times 2 on the way", x.law(0, 3, 2, 0), 0);
        DUE.is("times 0 on the way", x.law(0, 3, 0, 0), 0);
        DUE.is("a sum on the way", x.law(1, 0, 0, 0), 0);
        DUE.is("a sum that ends nearer, at the edge", x.law(1, 1, 0, 0), 999999990L);
        DUE.is("a sum that ends nearer, beyond it", x.law(1, 1, 1, 0), 0);
        DUE.is("the other way, at the edge", x.law(1, 2, 0, 0), -999999990L);
        DUE.is("the other way, beyond it", x.law(1, 2, 1, 0), 0);
        DUE.is("a million times 999", x.law(1, 3, 999, 0), 999000000L);
        DUE.is("a million times 1000", x.law(1, 3, 1000, 0), 1000000000L);
        DUE.is("far beyond", x.law(2, 0, 1, 0), 0);
        StringBuilder far = new StringBuilder("thing easy 2;grow next by 1000");
        for (int i = 0; i < 70; i++) {
            far.append(" times 1000");
        }
        DUE.is("1000 to the 71st, no wrap-around", Due.told(far + ";").law(0, 0, 0, 0), 0);
        DUE.is("1000 to the 71st over 1000", Due.told(far + " over 1000;").law(0, 0, 0, 0), 0);
    }

    private static void dividedByZero() {
        DUE.about("II: .. or it is divided by 0");
        NonsenseRows x = Due.told("thing easy 0;thing easy 1;row 0 1;grow next by 5 plus 6 over has;grow back by 5 plus 6 over left;"
            + "grow off by 5 plus 6 over easy;grow place by 5 plus 6 over tired;fall next by 5 plus 6 over hour;fall back by 5 plus 6 over 0;"
            + "fall off by 5 plus 0 over 0;fall place by 5 over 0 times 0 plus 9;mix next by 6 over 7 over has;");
        DUE.is("over has 0", x.law(0, 0, 0, 0), 0);
        DUE.is("over has 1", x.law(0, 0, 1, 0), 11);
        DUE.is("over left 0", x.law(0, 1, 1000, 0), 0);
        DUE.is("over left 1", x.law(0, 1, 999, 0), 11);
        DUE.is("over easy 0", x.law(0, 2, 0, 0), 0);
        DUE.is("over easy 1", x.law(0, 2, 0, 1), 11);
        DUE.is("over tired 0", x.law(0, 3, 0, 0), 0);
        x.read(0, 1);
        DUE.is("over tired 1", x.law(0, 3, 0, 0), 11);
        DUE.is("place grew by 0", x.strength(3, 0, 0), 0);
        DUE.is("over hour 0", x.law(1, 0, 0, 0), 0);
        x.waits(1);
        DUE.is("over hour 1", x.law(1, 0, 0, 0), 11);
        x.waits(23);
        DUE.is("over hour 24", x.law(1, 0, 0, 0), 0);
        DUE.is("over 0", x.law(1, 1, 0, 0), 0);
        DUE.is("0 over 0", x.law(1, 2, 0, 0), 0);
        DUE.is("over 0 and more", x.law(1, 3, 0, 0), 0);
        DUE.is("0 over has 0", x.law(2, 0, 0, 0), 0);
    }

    private static void withoutALaw() {
        DUE.about("II: .. also without such a LAW");
        NonsenseRows x = Due.told(THINGS + "row 0 1 2;row 0 2;grow next by 9;");
        x.read(0, 2);
        x.read(1, 1);
        x.waits(3);
        DUE.is("next stays without fall and mix", x.strength(0, 0, 1), 18);
        DUE.is("links(1)", x.links(1), 0);
        DUE.is("links(2)", x.links(2), 0);
        DUE.is("links(3)", x.links(3), 0);
    }

    private static void firstThingsOfAReading() {
        DUE.about("II: if there is an a, .. if there is a z");
        NonsenseRows x = Due.told("thing easy 0;".repeat(12) + "row 0 1;row 0 1 2;row 0 1 2 3 4 5 6 7 8 9 10 11;grow next by 1;grow back by 1;"
            + "grow off by 1;grow place by 1;");
        int[][] due = {{1, 1, 0, 2}, {2, 2, 1, 3}, {11, 11, 10, 12}};
        for (int row = 0; row < 3; row++) {
            x.forget();
            x.read(row, 1);
            for (int sort = 0; sort < 4; sort++) {
                DUE.is("links(" + sort + ") of ROW " + row, x.links(sort), due[row][sort]);
            }
        }
        DUE.is("next 10, 11", x.strength(0, 10, 11), 1);
        DUE.is("back 11, 10", x.strength(1, 11, 10), 1);
        DUE.is("back 10, 11", x.strength(1, 10, 11), 0);
        DUE.is("off 9, 11", x.strength(2, 9, 11), 1);
        DUE.is("place 11, 11", x.strength(3, 11, 11), 1);
    }

    private static void mixOfThoseThatAreThere() {
        DUE.about("II: all next LINKS a, c (c not b) that are there fall");
        NonsenseRows x = Due.told("thing easy 1;".repeat(24) + "row 0 1;row 0 23;row 0 2 23;row 5 1;grow next by 100;mix next by 7;");
        x.read(0, 1);
        x.read(1, 1);
        DUE.is("next 0, 1", x.strength(0, 0, 1), 93);
        DUE.is("next 0, 23 does not fall by itself", x.strength(0, 0, 23), 100);
        x.read(2, 1);
        DUE.is("next 0, 1 falls once", x.strength(0, 0, 1), 86);
        DUE.is("next 0, 23, the last THING", x.strength(0, 0, 23), 93);
        DUE.is("next 2, 23 leads from another one", x.strength(0, 2, 23), 100);
        x.read(3, 1);
        DUE.is("next 5, 1 leads from another one", x.strength(0, 0, 1), 86);
        NonsenseRows w = Due.told("thing easy 1;".repeat(24) + "row 1 0;row 0 23;row 23 22;row 22 0;grow next by 100;mix next by 7;");
        for (int row = 0; row < 4; row++) {
            w.read(row, 1);
        }
        int[][] pairs = {{1, 0}, {0, 23}, {23, 22}, {22, 0}};
        for (int[] pair : pairs) {
            DUE.is("24 THINGS, next " + pair[0] + ", " + pair[1] + " has none beside it", w.strength(0, pair[0], pair[1]), 100);
        }
        NonsenseRows z = Due.told(THINGS + "row 1 0;row 1 2;row 1 3;grow next by 100;mix next by 7;");
        z.read(0, 1);
        z.read(1, 1);
        z.read(2, 1);
        DUE.is("next 1, 0, the first THING", z.strength(0, 1, 0), 86);
        DUE.is("next 1, 2", z.strength(0, 1, 2), 93);
        DUE.is("next 1, 3", z.strength(0, 1, 3), 100);
        NonsenseRows y = Due.told(THINGS + "row 0 1;row 0 2;grow next by 100;mix next by 0 minus 7;");
        y.read(0, 1);
        DUE.is("what is not there does not rise", y.strength(0, 0, 2), 0);
        DUE.is("links(0)", y.links(0), 1);
    }

    private static void hourThatGoesBy() {
        DUE.about("II: hour in it: that which goes by; then the hour is one more; tired is 0");
        NonsenseRows x = Due.told(THINGS + "row 0 1;grow next by 900;fall next by hour times 10 plus tired;");
        x.waits(22);
        x.read(0, 3);
        x.waits(1);
        DUE.is("hour 22, tired 3", x.strength(0, 0, 1), 1000 - 223);
        x.waits(1);
        DUE.is("hour 23, tired 0", x.strength(0, 0, 1), 777 - 230);
        x.waits(1);
        DUE.is("hour 24 is 0", x.strength(0, 0, 1), 547);
        x.waits(1);
        DUE.is("hour 25 is 1", x.strength(0, 0, 1), 537);
    }

    // ---- Terms III and IV

    private static void supportIsCut() {
        DUE.about("III: all by 100, cut");
        for (int lean : new int[] {99, 100}) {
            NonsenseRows x = Due.told(THINGS + "row 0 1;lean place " + lean + ";grow place by 1;");
            x.read(0, 1);
            DUE.is("1 by " + lean, x.support(0, 0), lean / 100);
        }
        NonsenseRows y = Due.told(THINGS + "row 0 1;row 1 0;row 3 0 1;lean place 33;lean next 33;lean back 33;lean off 1;grow place by 1;"
            + "grow next by 1;grow back by 1;grow off by 1;");
        y.read(0, 1);
        DUE.is("66 in 100", y.support(0, 1), 0);
        y.read(1, 1);
        DUE.is("99 in 100", y.support(0, 1), 0);
        y.read(0, 1);
        DUE.is("165 in 100", y.support(0, 1), 1);
        DUE.is("the first goes by place alone", y.support(0, 0), 0);
        NonsenseRows z = Due.told(THINGS + "row 0 1;row 1 0;row 0 3 1;lean place 100;lean next 100;lean back 100;lean off 100;"
            + "grow place by 1000;grow next by 1000;grow back by 1000;grow off by 1000;");
        z.read(0, 1);
        z.read(1, 1);
        z.read(2, 1);
        DUE.is("all four at 1000", z.support(0, 1), 4000);
    }

    private static void slipBelowHold() {
        DUE.about("III: a SLIP: SUPPORT is below HOLD");
        for (int hold : new int[] {49, 50, 51}) {
            NonsenseRows x = Due.told(THINGS + "row 0 1;hold " + hold + ";lean place 100;grow place by 50;");
            x.read(0, 1);
            DUE.is("slips(0) of 50 with hold " + hold, x.slips(0), hold > 50 ? 3 : 0);
        }
        DUE.is("slips(0) of 0 with hold 0", Due.told(THINGS + "row 0 1;hold 0;").slips(0), 0);
        DUE.is("slips(0) of 0 with hold 1", Due.told(THINGS + "row 0 1;hold 1;").slips(0), 3);
    }

    private static void twoOneAfterTheOther() {
        DUE.about("III: until there was no SLIP behind two READINGS one after the other");
        DUE.is("two at least", Due.told(THINGS + "row 0 1;").learn(0), 2);
        NonsenseRows x = Due.told(THINGS + "row 0 1;hold 5;lean place 100;grow place by 5;");
        DUE.is("the first and the second", x.learn(0), 2);
        DUE.is("known: two all the same", x.learn(0), 2);
        // 1 0 0 1 3: no SLIP behind the first, fourth and fifth
        NonsenseRows y = Due.told(THINGS + "row 0 1;hold 1;lean place 100;grow place by 1 minus tired times 3 plus tired times tired;");
        DUE.is("with a SLIP between", y.learn(0), 5);
    }

    private static void fortyAtMost() {
        DUE.about("III: forty at most");
        for (int hold : new int[] {38, 39, 40}) {
            NonsenseRows x = Due.told(THINGS + "row 0 1;hold " + hold + ";lean place 100;grow place by 1;");
            int due = hold == 40 ? -1 : hold + 1;
            DUE.is("needs(0) with hold " + hold, x.needs(0), due);
            DUE.is("fresh(0) with hold " + hold, x.fresh(0), due);
            DUE.is("learn(0) with hold " + hold, x.learn(0), due);
            DUE.is("count(5) with hold " + hold, x.count(5), hold == 40 ? 40 : due);
        }
    }

    private static void latestSixty() {
        DUE.about("IV: SITTINGS, the latest 60 (the oldest is 0)");
        NonsenseRows x = Due.told(THINGS + "row 0 1;row 2 3;");
        for (int i = 1; i <= 59; i++) {
            x.read(0, i % 50 + 1);
        }
        DUE.is("count(6) of 59", x.count(6), 59);
        DUE.is("sitting(59, 0) of 59", x.sitting(59, 0), -1);
        x.read(1, 1);
        DUE.is("count(6) of 60", x.count(6), 60);
        DUE.is("sitting(0, 1) of 60", x.sitting(0, 1), 2);
        DUE.is("sitting(59, 0) of 60", x.sitting(59, 0), 1);
        x.learn(1);
        DUE.is("count(6) of 61", x.count(6), 60);
        DUE.is("sitting(0, 1) of 61", x.sitting(0, 1), 3);
        DUE.is("sitting(58, 0) of 61", x.sitting(58, 0), 1);
        DUE.is("sitting(59, 1) of 61", x.sitting(59, 1), 2);
        DUE.is("sitting(60, 0) of 61", x.sitting(60, 0), -1);
        DUE.refused(x, "read(2, 1)", () -> x.read(2, 1), -2);
        x.needs(0);
        x.saving(0);
        x.between(0, 1, 1);
        DUE.is("not on paper", x.sitting(0, 1), 3);
    }

    // ---- promises

    private static final String PLAIN = THINGS + "row 0 1 2;row 2 0;hold 50;lean next 100;lean place 50;grow next by 20;grow place by 40;"
        + "grow back by 30;grow off by 10;fall next by 3;fall place by has over 10;mix next by 5;";

    private static NonsenseRows used() {
        NonsenseRows x = Due.told(PLAIN);
        x.waits(7);
        x.read(0, 3);
        x.read(1, 1);
        return x;
    }

    private static void readBounds() {
        DUE.about("6: n (1 .. 50) times; -2: there are none such");
        NonsenseRows x = used();
        for (int row : new int[] {-1, 2, 12, MOST, LEAST}) {
            DUE.refused(x, "read(" + row + ", 1)", () -> x.read(row, 1), -2);
        }
        for (int n : new int[] {0, -1, 51, MOST, LEAST}) {
            DUE.refused(x, "read(0, " + n + ")", () -> x.read(0, n), -2);
        }
        DUE.is("read(0, 1)", x.read(0, 1), 3);
        DUE.is("used(0)", x.used(0), 4);
        DUE.is("read(1, 50)", x.read(1, 50), 4);
        DUE.is("used(1)", x.used(1), 51);
        DUE.is("sitting(3, 1)", x.sitting(3, 1), 50);
        for (int i = 5; i <= 60; i++) {
            DUE.is("SITTING " + i, x.read(0, 1), i);
        }
        DUE.is("SITTING 61: the BOOK has 60", x.read(0, 1), 60);
    }

    private static void learnBounds() {
        DUE.about("7: -2: there is none such");
        NonsenseRows x = used();
        for (int row : new int[] {-1, 2, 12, MOST, LEAST}) {
            DUE.refused(x, "learn(" + row + ")", () -> x.learn(row), -2);
        }
        DUE.is("learn(1), the last ROW", x.learn(1) > 0 ? 1 : 0, 1);
        DUE.is("count(6)", x.count(6), 3);
    }

    private static void learnOfForty() {
        DUE.about("7: NONE: forty were not enough (they were done)");
        NonsenseRows x = Due.told(THINGS + "row 0 1;hold 40;lean place 100;grow place by 1;");
        DUE.is("learn(0)", x.learn(0), -1);
        DUE.is("strength(3, 0, 0)", x.strength(3, 0, 0), 40);
        DUE.is("used(0)", x.used(0), 40);
        DUE.is("count(5)", x.count(5), 40);
        DUE.is("count(6)", x.count(6), 1);
        DUE.is("sitting(0, 1)", x.sitting(0, 1), 40);
        DUE.is("sitting(0, 3)", x.sitting(0, 3), 2);
        DUE.is("sitting(0, 4)", x.sitting(0, 4), 0);
        DUE.is("learn(0) once more", x.learn(0), 2);
    }

    private static void waitsBounds() {
        DUE.about("8: hours (0 .. 200); -2: others");
        NonsenseRows x = used();
        for (int hours : new int[] {-1, 201, MOST, LEAST}) {
            DUE.refused(x, "waits(" + hours + ")", () -> x.waits(hours), -2);
        }
        String before = Look.at(x);
        DUE.is("waits(0)", x.waits(0), 7);
        DUE.is("nothing in no hours", Look.at(x).equals(before) ? 1 : 0, 1);
        DUE.is("waits(1)", x.waits(1), 8);
        DUE.is("waits(199)", x.waits(199), 207);
        DUE.is("waits(200)", x.waits(200), 407);
        DUE.is("count(4)", x.count(4), 407);
        NonsenseRows y = Due.told(THINGS + "row 0 1;grow next by 1000;fall next by 1;");
        y.read(0, 1);
        y.waits(200);
        DUE.is("all 200 go by", y.strength(0, 0, 1), 800);
    }

    private static void strengthBounds() {
        DUE.about("9: a sort (0 .. 3), from a THING to a THING (of place: in a place 0 .. 11); -2: there are none such");
        NonsenseRows x = used();
        for (int bad : new int[] {-1, 4, MOST, LEAST}) {
            DUE.is("sort " + bad, x.strength(bad, 0, 1), -2);
            for (int sort = 0; sort < 4; sort++) {
                DUE.is("sort " + sort + " from " + bad, x.strength(sort, bad, 1), -2);
            }
            for (int sort = 0; sort < 3; sort++) {
                DUE.is("sort " + sort + " to " + bad, x.strength(sort, 1, bad), -2);
            }
        }
        for (int sort = 0; sort < 3; sort++) {
            DUE.is("sort " + sort + " between the last ones", x.strength(sort, 3, 2), 0);
            DUE.is("sort " + sort + " to the last one", x.strength(sort, 0, 3), 0);
        }
        DUE.is("from a THING to itself", x.strength(0, 1, 1), 0);
        DUE.is("next 0, 1", x.strength(0, 0, 1), 60);
        DUE.is("back 1, 0", x.strength(1, 1, 0), 90);
        DUE.is("off 0, 2", x.strength(2, 0, 2), 30);
        DUE.is("place 2, 2", x.strength(3, 2, 2), 120);
        DUE.is("place 3, 11", x.strength(3, 3, 11), 0);
        for (int place : new int[] {-1, 12, MOST, LEAST}) {
            DUE.is("place 3, " + place, x.strength(3, 3, place), -2);
        }
        NonsenseRows y = Due.told("thing easy 1;".repeat(24) + "row 23 0;grow next by 7;grow back by 8;");
        y.read(0, 1);
        DUE.is("next 23, 0", y.strength(0, 23, 0), 7);
        DUE.is("back 0, 23", y.strength(1, 0, 23), 8);
        DUE.is("next 24, 0", y.strength(0, 24, 0), -2);
        DUE.is("back 0, 24", y.strength(1, 0, 24), -2);
        DUE.is("place 24, 0", y.strength(3, 24, 0), -2);
    }

    private static void linksBounds() {
        DUE.about("10: how many LINKS of a sort there are (above 0); -2: there is no such sort");
        NonsenseRows x = Due.told(PLAIN);
        int[] due = {2, 2, 1, 3};
        for (int sort = 0; sort < 4; sort++) {
            DUE.is("links(" + sort + ") at first", x.links(sort), 0);
        }
        x.read(0, 1);
        for (int sort = 0; sort < 4; sort++) {
            DUE.is("links(" + sort + ")", x.links(sort), due[sort]);
        }
        for (int sort : new int[] {-1, 4, MOST, LEAST}) {
            DUE.is("links(" + sort + ")", x.links(sort), -2);
        }
        x.waits(6);
        DUE.is("links(0) at 2", x.links(0), 2);
        x.waits(1);
        DUE.is("links(0) at 0", x.links(0), 0);
    }

    private static void supportBounds() {
        DUE.about("11: of the i-th THING of a ROW; -2: there are none such");
        NonsenseRows x = used();
        DUE.is("support(0, 0)", x.support(0, 0), 60);
        DUE.is("support(0, 2)", x.support(0, 2), 120);
        DUE.is("support(1, 1)", x.support(1, 1), 40);
        for (int i : new int[] {-1, 3, 12, MOST, LEAST}) {
            DUE.is("support(0, " + i + ")", x.support(0, i), -2);
        }
        DUE.is("support(1, 2)", x.support(1, 2), -2);
        for (int row : new int[] {-1, 2, 12, MOST, LEAST}) {
            DUE.is("support(" + row + ", 0)", x.support(row, 0), -2);
        }
    }

    private static void slipsBounds() {
        DUE.about("12: -2: there is none such");
        NonsenseRows x = used();
        for (int row : new int[] {-1, 2, 12, MOST, LEAST}) {
            DUE.is("slips(" + row + ")", x.slips(row), -2);
        }
        DUE.is("slips(1), the last ROW", x.slips(1), 3);
    }

    private static void slipsOfTwelve() {
        DUE.about("12: SLIPS .. as bits of places");
        String text = "thing easy 1;".repeat(12) + "row 0 1 2 3 4 5 6 7 8 9 10 11;row 11 10;";
        NonsenseRows x = Due.told(text + "hold 1;");
        DUE.is("all twelve", x.slips(0), 4095);
        DUE.is("both", x.slips(1), 3);
        NonsenseRows y = Due.told(text + "row 3 11;hold 1;lean place 100;grow place by 1;");
        y.read(1, 1);
        DUE.is("slips(1) of none", y.slips(1), 0);
        DUE.is("slips(2), the first alone", y.slips(2), 3);
        y.read(2, 1);
        DUE.is("slips(2)", y.slips(2), 0);
        y.read(0, 1);
        DUE.is("slips(0)", y.slips(0), 0);
        NonsenseRows z = Due.told("thing easy 0;".repeat(11) + "thing easy 1;row 0 1 2 3 4 5 6 7 8 9 10 11;hold 1;lean place 100;"
            + "grow place by easy;");
        z.read(0, 1);
        DUE.is("all but the last", z.slips(0), 2047);
    }

    private static void forgetAll() {
        DUE.about("38: the HEAD is as at first (hour 0), the BOOK empty: how many LINKS it had");
        NonsenseRows x = used();
        x.keep(0);
        DUE.is("forget()", x.forget(), 3 + 3 + 1 + 5);
        int[] due = {4, 2, 16, 0, 0, 0, 0, 50, 100, 0, 0, 50, 0};
        for (int what = 0; what < due.length; what++) {
            DUE.is("count(" + what + ")", x.count(what), due[what]);
        }
        DUE.is("forget() of none", x.forget(), 0);
        DUE.is("used(0) stays", x.used(0), 3);
        x.back(0);
        DUE.is("the IMAGE stays", x.forget(), 12);
        for (int i = 0; i < 61; i++) {
            x.read(0, 1);
        }
        DUE.is("a SITTING is lost", x.fit(0, 0, 0, 0, 0), -5);
        x.forget();
        DUE.is("none is lost", x.fit(0, 0, 0, 0, 0), 1);
    }

    private static void lawBounds() {
        DUE.about("39: what (0 .. 2) of a sort, STRENGTH (0 .. 1000), a THING; 0 without such a LAW; NOTHING: there are none such");
        NonsenseRows x = Due.told(THINGS + "grow next by has plus 1;fall place by left plus 1;mix next by easy plus 1;");
        DUE.is("STRENGTH 0", x.law(0, 0, 0, 0), 1);
        DUE.is("STRENGTH 1000", x.law(0, 0, 1000, 0), 1001);
        DUE.is("left of 0", x.law(1, 3, 0, 0), 1001);
        DUE.is("left of 1000", x.law(1, 3, 1000, 0), 1);
        DUE.is("THING 0", x.law(2, 0, 5, 0), 4);
        DUE.is("THING 3", x.law(2, 0, 5, 3), 1);
        for (int law : new int[] {1, 2, 3, 4, 5, 6, 9, 10, 11}) {
            DUE.is("no LAW " + law, x.law(law / 4, law % 4, 5, 0), 0);
        }
        for (int strength : new int[] {-1, 1001, MOST, LEAST}) {
            DUE.is("STRENGTH " + strength, x.law(0, 0, strength, 0), NOTHING);
            DUE.is("STRENGTH " + strength + " without a LAW", x.law(0, 1, strength, 0), NOTHING);
        }
        for (int bad : new int[] {-1, 4, MOST, LEAST}) {
            DUE.is("what " + bad, x.law(bad, 0, 5, 0), NOTHING);
            DUE.is("sort " + bad, x.law(0, bad, 5, 0), NOTHING);
            DUE.is("THING " + bad, x.law(0, 0, 5, bad), NOTHING);
        }
        DUE.is("what 3", x.law(3, 0, 5, 0), NOTHING);
    }

    private static void countBounds() {
        DUE.about("40: NONE for others");
        NonsenseRows x = used();
        for (int what : new int[] {-1, 13, 14, MOST, LEAST}) {
            DUE.is("count(" + what + ")", x.count(what), -1);
        }
        int[] due = {4, 2, 16, 0, 7, 4, 2, 50, 100, 0, 0, 50, 0};
        for (int what = 0; what < due.length; what++) {
            DUE.is("count(" + what + ")", x.count(what), due[what]);
        }
        for (int slot = 0; slot < 4; slot++) {
            x.row(slot, 0, 0);
            DUE.is("count(12) with " + (slot + 1), x.count(12), slot + 1);
        }
        x.row(3, 1, 5);
        DUE.is("count(12), one in place of another", x.count(12), 4);
    }
}
