/** Promises 6 to 12 and 38 to 40: what readings and hours do to the head, and what it then has. */
public final class HeadTest {
    private static final Due DUE = new Due();
    private static final int NOTHING = -2000000000;
    private static final int MOST = Integer.MAX_VALUE;
    private static final int LEAST = Integer.MIN_VALUE;
    private static final String THINGS = "thing easy 3;thing easy 1;thing easy 2;thing easy 0;";
    private static final String PLAIN = THINGS + "row 0 1 2 3;row 2 0;hold 200;lean next 100;lean place 50;"
        + "grow next by 100;grow place by 40;grow back by 30;grow off by 20;"
        + "fall next by 10;fall place by has over 10;mix next by 25;";

    public static void main(String[] args) {
        read();
        readGrows();
        growsByItsOwnNumbers();
        tiredAndHour();
        otherWayRound();
        learn();
        waits();
        hoursFall();
        strength();
        links();
        support();
        slips();
        forget();
        law();
        lawTooFar();
        count();
        DUE.end("HeadTest");
    }

    private static void read() {
        DUE.about("promise 6");
        NonsenseRows x = Due.told(PLAIN);
        DUE.is("read(0, 1)", x.read(0, 1), 1);
        DUE.is("read(1, 50)", x.read(1, 50), 2);
        DUE.is("read(0, 0)", x.read(0, 0), -2);
        DUE.is("read(0, 51)", x.read(0, 51), -2);
        DUE.is("read(0, -1)", x.read(0, -1), -2);
        DUE.is("read(2, 1)", x.read(2, 1), -2);
        DUE.is("read(-1, 1)", x.read(-1, 1), -2);
        DUE.is("read(LEAST, MOST)", x.read(LEAST, MOST), -2);
        DUE.is("count(6)", x.count(6), 2);
        DUE.is("count(5)", x.count(5), 51);
        for (int i = 3; i <= 60; i++) {
            DUE.is("read " + i, x.read(0, 1), i);
        }
        DUE.is("the 61st", x.read(1, 1), 60);
        DUE.is("the 62nd", x.learn(1), 2);
        DUE.is("count(6)", x.count(6), 60);
    }

    private static void readGrows() {
        DUE.about("a READING");
        NonsenseRows x = Due.told(PLAIN);
        x.read(0, 1);
        for (int i = 0; i < 4; i++) {
            DUE.is("place " + i, x.strength(3, i, i), 40);
        }
        DUE.is("next 0 1", x.strength(0, 0, 1), 100);
        DUE.is("next 2 3", x.strength(0, 2, 3), 100);
        DUE.is("next 1 0", x.strength(0, 1, 0), 0);
        DUE.is("back 1 0", x.strength(1, 1, 0), 30);
        DUE.is("back 0 1", x.strength(1, 0, 1), 0);
        DUE.is("off 0 2", x.strength(2, 0, 2), 20);
        DUE.is("off 1 3", x.strength(2, 1, 3), 20);
        DUE.is("off 2 0", x.strength(2, 2, 0), 0);
        DUE.is("off 0 3", x.strength(2, 0, 3), 0);
        x.read(1, 1);
        DUE.is("next 2 0", x.strength(0, 2, 0), 100);
        DUE.is("next 2 3 is mixed", x.strength(0, 2, 3), 75);
        DUE.is("next 0 1 is not mixed", x.strength(0, 0, 1), 100);
        DUE.is("place 2 0", x.strength(3, 2, 0), 40);
        DUE.is("place 0 1", x.strength(3, 0, 1), 40);
        x.read(1, 50);
        DUE.is("next 2 0 at most", x.strength(0, 2, 0), 1000);
        DUE.is("next 2 3 at least", x.strength(0, 2, 3), 0);
    }

    private static void growsByItsOwnNumbers() {
        DUE.about("numbers of a LINK");
        NonsenseRows x = Due.told(THINGS + "row 0 1 2;row 0 3;grow next by easy times 10;grow back by easy times 10;"
            + "grow off by easy times 10;grow place by left over 4;mix next by easy;");
        x.read(0, 1);
        DUE.is("next 0 1", x.strength(0, 0, 1), 10);
        DUE.is("next 1 2", x.strength(0, 1, 2), 20);
        DUE.is("back 1 0", x.strength(1, 1, 0), 30);
        DUE.is("back 2 1", x.strength(1, 2, 1), 10);
        DUE.is("off 0 2", x.strength(2, 0, 2), 20);
        DUE.is("place 0 0", x.strength(3, 0, 0), 250);
        x.read(1, 1);
        DUE.is("next 0 1 falls by easy of 1", x.strength(0, 0, 1), 9);
        DUE.is("next 0 3", x.strength(0, 0, 3), 0);
        DUE.is("place 0 0", x.strength(3, 0, 0), 437);
        x.read(0, 1);
        DUE.is("place 0 0", x.strength(3, 0, 0), 577);
        NonsenseRows y = Due.told(THINGS + "row 0 1 2;grow place by easy times 10;fall place by easy;fall next by easy;grow next by 10;");
        y.read(0, 1);
        DUE.is("place 0 0 by easy of the THING", y.strength(3, 0, 0), 30);
        DUE.is("place 2 2 by easy of the THING", y.strength(3, 2, 2), 20);
        y.waits(2);
        DUE.is("place 0 0 behind 2 hours", y.strength(3, 0, 0), 24);
        DUE.is("next 0 1 behind 2 hours", y.strength(0, 0, 1), 8);
        DUE.is("next 1 2 behind 2 hours", y.strength(0, 1, 2), 6);
    }

    private static void tiredAndHour() {
        DUE.about("tired and hour");
        NonsenseRows x = Due.told(THINGS + "row 0 1;row 2 3;grow next by 100 minus tired times 30;grow place by hour;"
            + "fall next by tired plus hour;");
        x.read(0, 2);
        DUE.is("next 0 1", x.strength(0, 0, 1), 170);
        x.read(1, 1);
        DUE.is("next 2 3", x.strength(0, 2, 3), 40);
        DUE.is("place 0 0", x.strength(3, 0, 0), 0);
        x.waits(1);
        DUE.is("next 0 1 falls by tired 3, hour 0", x.strength(0, 0, 1), 167);
        DUE.is("count(5)", x.count(5), 0);
        x.waits(1);
        DUE.is("next 0 1 falls by tired 0, hour 1", x.strength(0, 0, 1), 166);
        x.read(1, 1);
        DUE.is("next 2 3", x.strength(0, 2, 3), 136);
        DUE.is("place 2 0 grows by hour 2", x.strength(3, 2, 0), 2);
        NonsenseRows y = Due.told(THINGS + "row 0 1;grow place by hour;");
        y.waits(24 + 23);
        y.read(0, 1);
        DUE.is("hour 47 modulo 24", y.strength(3, 0, 0), 23);
        y.waits(1);
        y.read(0, 1);
        DUE.is("hour 48 modulo 24", y.strength(3, 0, 0), 23);
        DUE.is("count(4)", y.count(4), 48);
    }

    private static void otherWayRound() {
        DUE.about("below 0");
        NonsenseRows x = Due.told(THINGS + "row 0 1;row 0 2;grow next by 500 minus tired times 200;"
            + "fall next by has minus 300;mix next by 0 minus 150;grow place by 300 minus has;");
        x.read(0, 4);
        DUE.is("next grows by 500, 300, 100, -100", x.strength(0, 0, 1), 800);
        x.read(0, 4);
        DUE.is("next falls to 0", x.strength(0, 0, 1), 0);
        DUE.is("place 0 0", x.strength(3, 0, 0), 300);
        x.waits(1);
        DUE.is("what is not there does not rise", x.strength(0, 0, 1), 0);
        x.read(0, 1);
        x.waits(1);
        DUE.is("fall by 200", x.strength(0, 0, 1), 300);
        x.read(1, 1);
        DUE.is("mix lifts", x.strength(0, 0, 1), 450);
        DUE.is("next 0 2", x.strength(0, 0, 2), 500);
        NonsenseRows y = Due.told(THINGS + "row 0 1;row 0 2;grow next by 200;fall next by has minus 300;");
        y.read(0, 1);
        y.waits(1);
        DUE.is("fall below 0 lifts", y.strength(0, 0, 1), 300);
        NonsenseRows z = Due.told(THINGS + "row 0 1;grow next by 900;fall next by 0 minus 1000;");
        z.read(0, 1);
        z.waits(1);
        DUE.is("at most 1000", z.strength(0, 0, 1), 1000);
    }

    private static void learn() {
        DUE.about("promise 7");
        NonsenseRows x = Due.told(PLAIN);
        // place alone holds the first THING: 20 a READING, 200 behind ten, and once more
        DUE.is("learn(0)", x.learn(0), 11);
        DUE.is("place 0 0", x.strength(3, 0, 0), 440);
        DUE.is("count(5)", x.count(5), 11);
        DUE.is("count(6)", x.count(6), 1);
        DUE.is("learn(0) again", x.learn(0), 2);
        DUE.is("learn(2)", x.learn(2), -2);
        DUE.is("learn(-1)", x.learn(-1), -2);
        DUE.is("learn(MOST)", x.learn(MOST), -2);
        DUE.is("count(6)", x.count(6), 2);
        NonsenseRows y = Due.told(THINGS + "row 0 1;hold 1;lean place 1;grow place by 2;");
        DUE.is("learn(0) of none", y.learn(0), -1);
        DUE.is("forty were done", y.strength(3, 0, 0), 80);
        DUE.is("used(0)", y.used(0), 40);
        DUE.is("behind fifty", y.learn(0), 11);
        DUE.is("a SLIP between", Due.told(THINGS + "row 0 1;hold 1;lean place 100;grow place by 1 minus tired times 3 plus tired times tired;")
            .learn(0), 5);
        NonsenseRows z = Due.told(THINGS + "row 0 1;hold 39;lean place 100;grow place by 1;");
        DUE.is("learn(0) with all forty", z.learn(0), 40);
        NonsenseRows w = Due.told(THINGS + "row 0 1;hold 40;lean place 100;grow place by 1;");
        DUE.is("learn(0) with the fortieth alone", w.learn(0), -1);
        NonsenseRows v = Due.told(THINGS + "row 0 1;");
        DUE.is("learn(0) with hold 0", v.learn(0), 2);
    }

    private static void waits() {
        DUE.about("promise 8");
        NonsenseRows x = Due.told(PLAIN);
        DUE.is("waits(0)", x.waits(0), 0);
        DUE.is("waits(200)", x.waits(200), 200);
        DUE.is("waits(7)", x.waits(7), 207);
        DUE.is("waits(201)", x.waits(201), -2);
        DUE.is("waits(-1)", x.waits(-1), -2);
        DUE.is("waits(LEAST)", x.waits(LEAST), -2);
        x.read(0, 1);
        x.waits(0);
        DUE.is("count(5)", x.count(5), 1);
        DUE.is("count(4)", x.count(4), 207);
    }

    private static void hoursFall() {
        DUE.about("AN HOUR");
        NonsenseRows x = Due.told(PLAIN);
        x.read(0, 1);
        x.waits(1);
        DUE.is("next", x.strength(0, 0, 1), 90);
        DUE.is("place", x.strength(3, 0, 0), 36);
        DUE.is("back has no LAW", x.strength(1, 1, 0), 30);
        x.waits(9);
        DUE.is("next", x.strength(0, 0, 1), 0);
        DUE.is("place", x.strength(3, 0, 0), 17);
        DUE.is("links(0)", x.links(0), 0);
        x.waits(200);
        DUE.is("place stays by the cut", x.strength(3, 0, 0), 9);
        x.read(0, 1);
        DUE.is("next comes again", x.strength(0, 0, 1), 100);
        DUE.is("links(0)", x.links(0), 3);
    }

    private static void strength() {
        DUE.about("promise 9");
        NonsenseRows x = Due.told(PLAIN);
        x.read(0, 1);
        DUE.is("strength(0, 2, 3)", x.strength(0, 2, 3), 100);
        DUE.is("strength(0, 3, 0)", x.strength(0, 3, 0), 0);
        DUE.is("strength(4, 0, 1)", x.strength(4, 0, 1), -2);
        DUE.is("strength(-1, 0, 1)", x.strength(-1, 0, 1), -2);
        DUE.is("strength(0, 4, 1)", x.strength(0, 4, 1), -2);
        DUE.is("strength(0, 1, 4)", x.strength(0, 1, 4), -2);
        DUE.is("strength(0, -1, 1)", x.strength(0, -1, 1), -2);
        DUE.is("strength(0, 1, -1)", x.strength(0, 1, -1), -2);
        DUE.is("strength(3, 0, 11)", x.strength(3, 0, 11), 0);
        DUE.is("strength(3, 0, 12)", x.strength(3, 0, 12), -2);
        DUE.is("strength(3, 0, -1)", x.strength(3, 0, -1), -2);
        DUE.is("strength(3, 4, 0)", x.strength(3, 4, 0), -2);
        DUE.is("strength(MOST, MOST, MOST)", x.strength(MOST, MOST, MOST), -2);
    }

    private static void links() {
        DUE.about("promise 10");
        NonsenseRows x = Due.told(PLAIN);
        DUE.is("links(0)", x.links(0), 0);
        x.read(0, 1);
        DUE.is("links(0)", x.links(0), 3);
        DUE.is("links(1)", x.links(1), 3);
        DUE.is("links(2)", x.links(2), 2);
        DUE.is("links(3)", x.links(3), 4);
        DUE.is("links(4)", x.links(4), -2);
        DUE.is("links(-1)", x.links(-1), -2);
        x.read(1, 4);
        DUE.is("links(0) without the mixed one", x.links(0), 3);
        DUE.is("links(3)", x.links(3), 6);
        linksOfAllRows();
    }

    /** Twelve ROWS of twelve THINGS that have no LINK in common: as many as there can be. */
    private static void linksOfAllRows() {
        NonsenseRows x = Due.told("thing easy 0;".repeat(24) + "row 5 17 9 15 11 21 19 7 1 12 6 18;row 22 11 17 12 9 16 13 19 6 15 4 10;"
            + "row 18 23 20 6 16 15 21 17 8 7 9 3;row 8 15 0 9 10 3 14 16 21 11 18 4;row 0 21 18 10 14 4 8 2 20 5 1 23;"
            + "row 12 5 8 1 2 10 18 0 22 20 21 7;row 2 9 23 5 21 0 3 15 17 18 14 6;row 16 8 10 22 18 7 0 6 13 3 5 14;"
            + "row 3 6 12 21 5 19 16 11 14 9 13 1;row 23 14 3 7 22 13 9 20 2 0 10 8;row 17 20 11 3 1 5 15 13 0 4 19 12;"
            + "row 14 10 2 11 15 8 5 18 12 13 7 19;grow next by 1;grow back by 1;grow off by 1;grow place by 1;");
        for (int row = 0; row < 12; row++) {
            x.read(row, 1);
        }
        x.keep(0);
        DUE.is("links(0) of all", x.links(0), 132);
        DUE.is("links(1) of all", x.links(1), 132);
        DUE.is("links(2) of all", x.links(2), 120);
        DUE.is("links(3) of all", x.links(3), 144);
        DUE.is("forget()", x.forget(), 528);
        x.back(0);
        DUE.is("forget() as it was", x.forget(), 528);
    }

    private static void support() {
        DUE.about("promise 11");
        NonsenseRows x = Due.told(PLAIN);
        x.read(0, 1);
        DUE.is("support(0, 0)", x.support(0, 0), 20);
        DUE.is("support(0, 1)", x.support(0, 1), 120);
        DUE.is("support(0, 3)", x.support(0, 3), 120);
        DUE.is("support(0, 4)", x.support(0, 4), -2);
        DUE.is("support(0, -1)", x.support(0, -1), -2);
        DUE.is("support(1, 0)", x.support(1, 0), 0);
        DUE.is("support(1, 2)", x.support(1, 2), -2);
        DUE.is("support(2, 0)", x.support(2, 0), -2);
        DUE.is("support(-1, 0)", x.support(-1, 0), -2);
        NonsenseRows y = Due.told(THINGS + "row 0 1 2;row 2 1 0;row 0 2;row 2 0;lean next 33;lean back 50;lean off 70;lean place 1;"
            + "grow next by 101;grow back by 11;grow off by 7;grow place by 3;");
        y.read(0, 1);
        // 0 to 1: 33 * 101 + 1 * 3 = 3336; next and place alone
        DUE.is("support(0, 1)", y.support(0, 1), 33);
        // 2 to 1 by back: 50 * 11 + 1 * 3 = 553; place 1 is its own
        DUE.is("support(1, 1)", y.support(1, 1), 5);
        // 1 to 0 by back; place of 0 is another one
        DUE.is("support(1, 2)", y.support(1, 2), 5);
        // 0 to 2 by off: 70 * 7
        DUE.is("support(2, 1)", y.support(2, 1), 4);
        DUE.is("support(3, 1)", y.support(3, 1), 0);
        y.read(3, 1);
        // 0 to 2: off 70 * 7 and back 50 * 11 together are cut once
        DUE.is("support(2, 1) with back", y.support(2, 1), 10);
        DUE.is("support(2, 0)", y.support(2, 0), 0);
    }

    private static void slips() {
        DUE.about("promise 12");
        NonsenseRows x = Due.told(PLAIN);
        DUE.is("slips(0)", x.slips(0), 15);
        DUE.is("slips(1)", x.slips(1), 3);
        x.read(0, 2);
        DUE.is("slips(0) behind two", x.slips(0), 1);
        x.read(0, 7);
        DUE.is("slips(0) behind nine", x.slips(0), 1);
        x.read(0, 1);
        DUE.is("slips(0) at HOLD", x.slips(0), 0);
        DUE.is("slips(2)", x.slips(2), -2);
        DUE.is("slips(-1)", x.slips(-1), -2);
        DUE.is("slips with hold 0", Due.told(THINGS + "row 0 1;").slips(0), 0);
    }

    private static void forget() {
        DUE.about("promise 38");
        NonsenseRows x = Due.told(PLAIN);
        DUE.is("forget()", x.forget(), 0);
        x.read(0, 1);
        x.waits(5);
        x.read(1, 1);
        x.backward(0);
        DUE.is("forget()", x.forget(), 3 + 1 + 3 + 1 + 2 + 4 + 2);
        DUE.is("links(0)", x.links(0), 0);
        DUE.is("count(4)", x.count(4), 0);
        DUE.is("count(5)", x.count(5), 0);
        DUE.is("count(6)", x.count(6), 0);
        DUE.is("count(1)", x.count(1), 3);
        DUE.is("count(7)", x.count(7), 200);
        DUE.is("used(0)", x.used(0), 1);
        DUE.is("sitting(0, 0)", x.sitting(0, 0), -1);
        DUE.is("forget()", x.forget(), 0);
        x.read(0, 1);
        x.waits(10);
        DUE.is("forget() of those above 0", x.forget(), 3 + 2 + 4);
    }

    private static void law() {
        DUE.about("promise 39");
        NonsenseRows x = Due.told(THINGS + "row 0 1;grow next by has plus left times 2 minus easy;fall off by 7 over 2 times 2;"
            + "mix next by 3 minus 10;grow place by tired times 100 plus hour;fall back by 1 over has;");
        DUE.is("law(0, 0, 100, 0)", x.law(0, 0, 100, 0), 100 + 1800 - 3);
        DUE.is("law(0, 0, 100, 1)", x.law(0, 0, 100, 1), 100 + 1800 - 1);
        DUE.is("law(0, 0, 0, 3)", x.law(0, 0, 0, 3), 2000);
        DUE.is("law(0, 0, 1000, 3)", x.law(0, 0, 1000, 3), 1000);
        DUE.is("law(1, 2, 5, 0)", x.law(1, 2, 5, 0), 6);
        DUE.is("law(2, 0, 5, 0)", x.law(2, 0, 5, 0), -7);
        DUE.is("law(1, 1, 0, 0) divided by 0", x.law(1, 1, 0, 0), 0);
        DUE.is("law(1, 1, 1, 0)", x.law(1, 1, 1, 0), 1);
        DUE.is("law(1, 0, 5, 0) is not told", x.law(1, 0, 5, 0), 0);
        DUE.is("law(0, 3, 5, 0)", x.law(0, 3, 5, 0), 0);
        x.read(0, 3);
        x.waits(0);
        DUE.is("law(0, 3, 5, 0) tired", x.law(0, 3, 5, 0), 300);
        x.waits(30);
        x.read(0, 1);
        DUE.is("law(0, 3, 5, 0) at an hour", x.law(0, 3, 5, 0), 106);
        DUE.is("law(2, 1, 5, 0): no such LAW", x.law(2, 1, 5, 0), 0);
        DUE.is("law(3, 0, 5, 0)", x.law(3, 0, 5, 0), NOTHING);
        DUE.is("law(-1, 0, 5, 0)", x.law(-1, 0, 5, 0), NOTHING);
        DUE.is("law(0, 4, 5, 0)", x.law(0, 4, 5, 0), NOTHING);
        DUE.is("law(0, -1, 5, 0)", x.law(0, -1, 5, 0), NOTHING);
        DUE.is("law(0, 0, 1001, 0)", x.law(0, 0, 1001, 0), NOTHING);
        DUE.is("law(0, 0, -1, 0)", x.law(0, 0, -1, 0), NOTHING);
        DUE.is("law(0, 0, 5, 4)", x.law(0, 0, 5, 4), NOTHING);
        DUE.is("law(0, 0, 5, -1)", x.law(0, 0, 5, -1), NOTHING);
    }

    private static void lawTooFar() {
        DUE.about("a number beyond 1,000,000,000");
        NonsenseRows x = Due.told("thing easy 2;"
            + "grow next by 1000 times 1000 times 1000;grow back by 1000 times 1000 times 1000 plus 1;"
            + "grow off by 1000 times 1000 times has over 1000 times 2;"
            + "grow place by 0 minus 1000 times 1000 times 1000;fall next by 0 minus 1000 times 1000 times 1000 minus 1;"
            + "fall back by 5 plus 1000 times 1000 times 1000 times 2 over 1000;fall off by 1000 times 1000 times 1000 plus 1 minus 1;"
            + "fall place by 7 over 0 times 0;mix next by 5 plus 3 over 4 minus 9 over 2;");
        DUE.is("1e9", x.law(0, 0, 0, 0), 1000000000L);
        DUE.is("1e9 plus 1", x.law(0, 1, 0, 0), 0);
        DUE.is("1e9 on the way", x.law(0, 2, 1000, 0), 2000000L);
        DUE.is("-1e9", x.law(0, 3, 0, 0), -1000000000L);
        DUE.is("-1e9 minus 1", x.law(1, 0, 0, 0), 0);
        DUE.is("2e9 on the way", x.law(1, 1, 0, 0), 0);
        DUE.is("1e9 plus 1 minus 1", x.law(1, 2, 0, 0), 0);
        DUE.is("over 0", x.law(1, 3, 0, 0), 0);
        NonsenseRows y = Due.told("thing easy 2;grow next by 1000 times 1000 times 1000 minus 1;"
            + "grow back by 0 minus 1000 times 1000 times 1000 plus 1;");
        DUE.is("1e9 minus 1", y.law(0, 0, 0, 0), 999999999L);
        DUE.is("-1e9 plus 1", y.law(0, 1, 0, 0), -999999999L);
        DUE.is("terms cut each", x.law(2, 0, 0, 0), 1);
    }

    private static void count() {
        DUE.about("promise 40");
        NonsenseRows x = Due.told(THINGS + "row 0 1;hold 77;lean next 1;lean back 2;lean off 3;lean place 4;");
        x.feed(0, 0, 0, 0, 0);
        x.read(0, 3);
        x.waits(2);
        x.read(0, 4);
        x.backward(0);
        x.row(0, 0, 0);
        x.row(3, 1, 5);
        int[] due = {4, 2, 10, 20, 2, 4, 2, 77, 1, 2, 3, 4, 2};
        for (int what = 0; what < due.length; what++) {
            DUE.is("count(" + what + ")", x.count(what), due[what]);
        }
        DUE.is("count(13)", x.count(13), -1);
        DUE.is("count(-1)", x.count(-1), -1);
        DUE.is("count(LEAST)", x.count(LEAST), -1);
    }
}
