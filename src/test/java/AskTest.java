/** Promises 13 to 25: what is asked of rows on paper. */
public final class AskTest {
    private static final Due DUE = new Due();
    private static final int NOTHING = -2000000000;
    private static final int MOST = Integer.MAX_VALUE;
    private static final int LEAST = Integer.MIN_VALUE;
    private static final String THINGS = "thing easy 3;thing easy 1;thing easy 2;thing easy 0;";
    // 10 a READING and -1 an hour for each place: n READINGS, h hours: 10 n - h
    private static final String STEADY = THINGS + "row 0 1 2;row 1 0 3;hold 100;lean place 100;grow place by 10;fall place by 1;";

    public static void main(String[] args) {
        needs();
        fresh();
        saving();
        after();
        lasts();
        gone();
        without();
        between();
        betweenOfNone();
        evening();
        when();
        must();
        verse();
        near();
        nothingStays();
        DUE.end("AskTest");
    }

    private static void needs() {
        DUE.about("promise 13");
        NonsenseRows x = Due.told(STEADY);
        DUE.is("needs(0)", x.needs(0), 11);
        x.read(0, 4);
        DUE.is("needs(0)", x.needs(0), 7);
        DUE.is("needs(1) has place 2 of another", x.needs(1), 11);
        x.read(0, 20);
        DUE.is("needs(0) when it is known", x.needs(0), 2);
        DUE.is("needs(2)", x.needs(2), -2);
        DUE.is("needs(-1)", x.needs(-1), -2);
        DUE.is("needs(LEAST)", x.needs(LEAST), -2);
        NonsenseRows y = Due.told(THINGS + "row 0 1;hold 400;lean place 100;grow place by 10;");
        DUE.is("needs(0) of forty-one", y.needs(0), -1);
        y.read(0, 1);
        DUE.is("needs(0) of forty", y.needs(0), 40);
        NonsenseRows z = Due.told(THINGS + "row 0 1;hold 100;lean place 100;grow place by 20 minus tired;");
        DUE.is("needs(0) from tired 0", z.needs(0), 7);
        NonsenseRows w = Due.told(THINGS + "row 0 1;row 2 3;hold 100;lean place 100;grow place by 20 minus tired;");
        w.read(1, 8);
        // 12 11 10 9 8 7 6 5 4 3 2 1 and no more: 78 in all
        DUE.is("needs(0) from tired 8", w.needs(0), -1);
    }

    private static void fresh() {
        DUE.about("promise 14");
        NonsenseRows x = Due.told(STEADY);
        x.read(0, 4);
        DUE.is("fresh(0)", x.fresh(0), 11);
        DUE.is("fresh(2)", x.fresh(2), -2);
        DUE.is("fresh(-1)", x.fresh(-1), -2);
        NonsenseRows y = Due.told(THINGS + "row 0 1;hold 100;lean place 100;grow place by 10 times hour minus tired times 10;");
        DUE.is("fresh(0) at hour 0", y.fresh(0), -1);
        y.waits(9);
        y.read(0, 5);
        // 90 80: 170 behind two; tired is 0 in a HEAD as at first
        DUE.is("fresh(0) at hour 9", y.fresh(0), 3);
        y.waits(24);
        DUE.is("fresh(0) at hour 33", y.fresh(0), 3);
        y.waits(1);
        DUE.is("fresh(0) at hour 34", y.fresh(0), 2);
    }

    private static void saving() {
        DUE.about("promise 15");
        NonsenseRows x = Due.told(STEADY);
        DUE.is("saving(0)", x.saving(0), 0);
        x.read(0, 4);
        DUE.is("saving(0)", x.saving(0), 363);
        DUE.is("saving(2)", x.saving(2), NOTHING);
        DUE.is("saving(-1)", x.saving(-1), NOTHING);
        NonsenseRows y = Due.told(THINGS + "row 0 1;row 2 3;hold 100;lean place 100;grow place by 20 minus tired;");
        y.read(1, 3);
        // fresh 20 19 18 17 16 15: seven; tired 3: 17 16 15 14 13 12 11 .. 98 behind seven: nine
        DUE.is("needs(0)", y.needs(0), 9);
        DUE.is("saving(0) below 0", y.saving(0), -285);
        y.read(1, 5);
        DUE.is("saving(0) when needs() is NONE", y.saving(0), NOTHING);
        NonsenseRows z = Due.told(THINGS + "row 0 1;hold 400;lean place 100;grow place by 10;");
        z.read(0, 5);
        DUE.is("saving(0) when fresh() is NONE", z.saving(0), NOTHING);
    }

    private static void after() {
        DUE.about("promise 16");
        NonsenseRows x = Due.told(STEADY);
        x.read(0, 4);
        DUE.is("after(0, 0)", x.after(0, 0), 7);
        DUE.is("after(0, 1)", x.after(0, 1), 8);
        DUE.is("after(0, 10)", x.after(0, 10), 8);
        DUE.is("after(0, 11)", x.after(0, 11), 9);
        DUE.is("after(0, 200)", x.after(0, 200), 11);
        DUE.is("after(0, 201)", x.after(0, 201), -2);
        DUE.is("after(0, -1)", x.after(0, -1), -2);
        DUE.is("after(2, 1)", x.after(2, 1), -2);
        DUE.is("after(-1, 1)", x.after(-1, 1), -2);
        DUE.is("count(4)", x.count(4), 0);
    }

    private static void lasts() {
        DUE.about("promise 17");
        NonsenseRows x = Due.told(STEADY);
        DUE.is("lasts(0)", x.lasts(0), 0);
        x.read(0, 10);
        DUE.is("lasts(0) at HOLD", x.lasts(0), 1);
        x.read(0, 2);
        DUE.is("lasts(0)", x.lasts(0), 21);
        x.read(0, 18);
        DUE.is("lasts(0) to the last hour but one", x.lasts(0), -1);
        x.waits(1);
        DUE.is("lasts(0) to the last hour", x.lasts(0), 200);
        DUE.is("lasts(1)", x.lasts(1), 0);
        DUE.is("lasts(2)", x.lasts(2), -2);
        DUE.is("lasts(-1)", x.lasts(-1), -2);
        DUE.is("lasts with hold 0", Due.told(THINGS + "row 0 1;").lasts(0), -1);
    }

    private static void gone() {
        DUE.about("promise 18");
        NonsenseRows x = Due.told(STEADY);
        DUE.is("gone(0)", x.gone(0), 0);
        x.read(0, 4);
        // 40 less 31 is 9, as good as nothing; less 30 is 10
        DUE.is("gone(0)", x.gone(0), 31);
        x.read(0, 3);
        DUE.is("gone(0) beyond 60", x.gone(0), -1);
        x.waits(1);
        DUE.is("gone(0) at 60", x.gone(0), 60);
        DUE.is("gone(2)", x.gone(2), -2);
        DUE.is("gone(-1)", x.gone(-1), -2);
        NonsenseRows y = Due.told(THINGS + "row 0 1;hold 400;lean place 100;grow place by 10;fall place by 1;");
        DUE.is("gone(0) with NONE and NONE", y.gone(0), 0);
        y.read(0, 1);
        DUE.is("gone(0) with 40 and NONE", y.gone(0), 1);
        NonsenseRows z = Due.told(THINGS + "row 0 1;hold 10;lean place 100;grow place by hour minus 12;fall place by 1;");
        z.waits(20);
        z.read(0, 1);
        // 8 at hour 20: two and one; at hour 21 of 7: 16, 18 at first; at hour 22, 10 fresh
        DUE.is("needs(0)", z.needs(0), 2);
        DUE.is("fresh(0)", z.fresh(0), 3);
        DUE.is("gone(0) by fresh() at that hour", z.gone(0), 2);
    }

    private static void without() {
        DUE.about("promise 19");
        NonsenseRows x = Due.told(THINGS + "row 0 1;hold 100;lean next 50;lean place 100;grow next by 20;grow place by 10;");
        DUE.is("needs(0)", x.needs(0), 11);
        DUE.is("without(0, 0)", x.without(0, 0), 11);
        DUE.is("without(0, 3)", x.without(0, 3), -1);
        DUE.is("without(0, 1)", x.without(0, 1), 11);
        DUE.is("without(0, 4)", x.without(0, 4), -2);
        DUE.is("without(0, -1)", x.without(0, -1), -2);
        DUE.is("without(1, 0)", x.without(1, 0), -2);
        DUE.is("without(-1, 0)", x.without(-1, 0), -2);
        DUE.is("count(11)", x.count(11), 100);
        DUE.is("needs(0) stays", x.needs(0), 11);
        NonsenseRows y = Due.told(THINGS + "row 0 1;row 2 1;row 1 0;hold 60;lean next 100;lean back 100;lean off 100;lean place 100;"
            + "grow next by 10;grow back by 5;grow place by 20;");
        y.read(2, 4);
        // back 0, 1 is 20, next 0, 1 and place grow by 10 and 20: the first by place alone
        DUE.is("needs(0)", y.needs(0), 4);
        DUE.is("without(0, 0)", y.without(0, 0), 4);
        DUE.is("without(0, 1)", y.without(0, 1), 4);
        DUE.is("without(0, 3)", y.without(0, 3), -1);
    }

    private static void between() {
        DUE.about("promise 20");
        NonsenseRows x = Due.told(THINGS + "row 0 1;row 0 2;row 3 2;hold 100;lean next 100;lean place 100;"
            + "grow next by 10;grow place by 100;mix next by 2;");
        x.read(0, 5);
        // place 0, 0 is whole at once, next 0, 1 is 50; place 1, 1 is 500
        DUE.is("needs(0)", x.needs(0), 2);
        DUE.is("between(0, 1, 1)", x.between(0, 1, 1), 0);
        NonsenseRows y = Due.told(THINGS + "row 0 1;row 0 2;row 3 2;hold 100;lean next 100;lean place 100;"
            + "grow next by 10;grow place by easy times 40;mix next by 2;fall next by 1;");
        y.read(0, 1);
        // b of row 0 goes by 40 a READING of place and 10 of next: 50 now, 49 behind an hour;
        // row 1 takes 90 a READING (two and one): 10 - 2 * 3 is 4 then, 3 behind an hour
        DUE.is("needs(1)", y.needs(1), 3);
        DUE.is("after(0, 1)", y.after(0, 1), 3);
        DUE.is("between(0, 1, 1)", y.between(0, 1, 1), 0);
        DUE.is("between(0, 2, 1) of a ROW that can't be", y.between(0, 2, 1), NOTHING);
        DUE.is("between(2, 0, 1) of a ROW that can't be", y.between(2, 0, 1), NOTHING);
        DUE.is("between(0, 1, 0)", y.between(0, 1, 0), NOTHING);
        DUE.is("between(0, 1, 201)", y.between(0, 1, 201), NOTHING);
        DUE.is("between(0, 0, 1)", y.between(0, 0, 1), NOTHING);
        DUE.is("between(0, 3, 1)", y.between(0, 3, 1), NOTHING);
        DUE.is("between(3, 0, 1)", y.between(3, 0, 1), NOTHING);
        DUE.is("between(-1, 0, 1)", y.between(-1, 0, 1), NOTHING);
        NonsenseRows z = Due.told(THINGS + "row 0 1;row 0 2;hold 100;lean next 100;lean place 0;"
            + "grow next by 20;mix next by 5;fall next by 10;");
        DUE.is("between without place", z.between(0, 1, 1), NOTHING);
        NonsenseRows w = Due.told(THINGS + "row 0 1;row 0 2;hold 100;lean next 100;lean place 100;"
            + "grow next by 20;grow place by 100 minus has;mix next by 5;fall next by 10;fall place by has;");
        w.read(0, 4);
        // next 0, 1: 80; place gives 100 to all that is read at once, so both need two
        DUE.is("between(0, 1, 2)", w.between(0, 1, 2), 0);
        NonsenseRows v = Due.told("thing easy 9;thing easy 0;thing easy 0;row 0 1;row 0 2;hold 90;lean next 100;lean place 10;"
            + "grow next by 20;grow place by easy times 200;mix next by 5;fall next by 1;");
        v.read(0, 4);
        // next 0, 1 is 80, 79 behind an hour: two and none more. Row 1 takes six: 80 less 30 is 50, 49: 69, 89, 109, once more
        DUE.is("after(0, 1)", v.after(0, 1), 2);
        DUE.is("needs(1)", v.needs(1), 6);
        DUE.is("between(0, 1, 1)", v.between(0, 1, 1), 2);
        // 80 less 20 is 60: 80, 100, 120. 50 less 20 is 30: 50, 70, 90, 110
        DUE.is("between(0, 1, 20)", v.between(0, 1, 20), 1);
    }

    /** THING 1 has no place: it goes by next 0, 1, which is 1 and which the other ROW takes or lifts. */
    private static void betweenOfNone() {
        String text = "thing easy 9;thing easy 0;thing easy 9;row 0 1;row 0 2;lean place 20;lean next 100;hold 100;"
            + "grow place by easy times 100;";
        NonsenseRows x = Due.told(text + "grow next by has plus hour;mix next by 1000;");
        x.waits(1);
        x.read(0, 1);
        x.waits(23);
        DUE.is("after(0, 24)", x.after(0, 24), 8);
        DUE.is("needs(1)", x.needs(1), 2);
        DUE.is("between(0, 1, 24), NONE behind the other", x.between(0, 1, 24), NOTHING);
        NonsenseRows y = Due.told(text + "grow next by hour;mix next by 0 minus 50;");
        y.waits(1);
        y.read(0, 1);
        y.waits(23);
        DUE.is("after(0, 24)", y.after(0, 24), -1);
        DUE.is("needs(1)", y.needs(1), 2);
        DUE.is("between(0, 1, 24), NONE without the other", y.between(0, 1, 24), NOTHING);
        y.read(1, 2);
        DUE.is("needs(0)", y.needs(0), 2);
    }

    private static void evening() {
        DUE.about("promise 21");
        NonsenseRows x = Due.told(STEADY);
        // learnt now it has 110: 110 - 15 is 95: two READINGS; learnt 5 later: 100 behind 10 hours
        DUE.is("evening(0, 5, 10)", x.evening(0, 5, 10), 0);
        // 110 - 31 is 79: 4; 110 - 26 is 84: 3
        DUE.is("evening(0, 5, 25)", x.evening(0, 5, 25), 0);
        DUE.is("evening(0, 5, 26)", x.evening(0, 5, 26), 1);
        DUE.is("evening(0, 0, 26)", x.evening(0, 0, 26), 0);
        DUE.is("evening(0, 23, 0)", x.evening(0, 23, 0), 1);
        DUE.is("evening(0, 23, 200)", x.evening(0, 23, 200), 0);
        DUE.is("evening(0, 24, 0)", x.evening(0, 24, 0), NOTHING);
        DUE.is("evening(0, -1, 0)", x.evening(0, -1, 0), NOTHING);
        DUE.is("evening(0, 1, 201)", x.evening(0, 1, 201), NOTHING);
        DUE.is("evening(0, 1, -1)", x.evening(0, 1, -1), NOTHING);
        DUE.is("evening(2, 1, 1)", x.evening(2, 1, 1), NOTHING);
        DUE.is("evening(-1, 1, 1)", x.evening(-1, 1, 1), NOTHING);
        NonsenseRows y = Due.told(THINGS + "row 0 1;hold 10;lean place 100;grow place by 10 minus hour;fall place by 1;");
        DUE.is("evening(0, 9, 0)", y.evening(0, 9, 0), 0);
        // 20 less 13 is 7, and nothing grows at hour 13
        DUE.is("evening(0, 8, 5) with a needs() of NONE", y.evening(0, 8, 5), NOTHING);
        DUE.is("evening(0, 10, 0) can't be LEARNT later", y.evening(0, 10, 0), NOTHING);
        NonsenseRows z = Due.told(THINGS + "row 0 1;hold 10;lean place 100;grow place by hour;fall place by 1;");
        DUE.is("evening(0, 5, 0) can't be LEARNT now", z.evening(0, 5, 0), NOTHING);
    }

    private static void when() {
        DUE.about("promise 22");
        NonsenseRows x = Due.told(THINGS + "row 0 1;row 2 3;hold 100;lean place 100;grow place by hour;");
        // hour 23: five READINGS are 115: six; 20, 21 and 22 too
        DUE.is("when(0)", x.when(0), 20);
        x.waits(21);
        DUE.is("when(0) at hour 21", x.when(0), 0);
        x.waits(3);
        DUE.is("when(0) at hour 24", x.when(0), 20);
        x.waits(1);
        DUE.is("when(0) at hour 25", x.when(0), 19);
        DUE.is("when(2)", x.when(2), -2);
        DUE.is("when(-1)", x.when(-1), -2);
        DUE.is("when in none", Due.told(THINGS + "row 0 1;hold 1;").when(0), -1);
        NonsenseRows y = Due.told(STEADY);
        y.read(0, 4);
        DUE.is("when(0) at once", y.when(0), 0);
        NonsenseRows z = Due.told(THINGS + "row 0 1;row 2 3;hold 100;lean place 100;grow place by 20 minus tired;");
        z.read(1, 8);
        DUE.is("when(0), no longer tired", z.when(0), 1);
        whenAtTheLastHour();
    }

    /** What is there rises by one an hour: in 23 hours it does, or in 24, which is not asked. */
    private static void whenAtTheLastHour() {
        String text = THINGS + "row 0 1;lean place 100;grow place by 10;fall place by 0 minus 1;";
        NonsenseRows x = Due.told(text + "hold 53;");
        x.read(0, 1);
        DUE.is("after(0, 22)", x.after(0, 22), 4);
        DUE.is("after(0, 23)", x.after(0, 23), 3);
        DUE.is("when(0) in 23 hours", x.when(0), 23);
        NonsenseRows y = Due.told(text + "hold 54;");
        y.read(0, 1);
        DUE.is("after(0, 24)", y.after(0, 24), 3);
        DUE.is("when(0), 14 hours from now", y.when(0), 14);
    }

    private static void must() {
        DUE.about("promise 23");
        NonsenseRows x = Due.told(THINGS + "row 0 1;hold 100;lean next 50;lean place 100;grow next by 20;grow place by 10;");
        DUE.is("must(0)", x.must(0), 3);
        DUE.is("must(0) of all alike", Due.told(THINGS + "row 0 1;").must(0), 0);
        DUE.is("must(1)", x.must(1), -2);
        DUE.is("must(-1)", x.must(-1), -2);
        NonsenseRows y = Due.told("thing easy 9;thing easy 1;row 0 1;hold 100;lean back 50;lean place 100;lean next 20;"
            + "grow back by 20;grow next by 1;grow place by easy times 11 plus 1;");
        // the first has 100 a READING, the other 12 and a little of next; back leads the other way
        DUE.is("must(0)", y.must(0), 3);
        NonsenseRows z = Due.told("thing easy 9;thing easy 0;row 0 1;row 1 0;hold 80;lean back 100;lean place 100;"
            + "grow back by 50;grow place by easy times 20 plus 1;");
        z.read(1, 1);
        // back 0, 1 is 50 and stays; place of 1 is 1 a READING: thirty and one; without back NONE
        DUE.is("without(0, 1)", z.without(0, 1), -1);
        DUE.is("must(0)", z.must(0), 1);
    }

    private static void verse() {
        DUE.about("promise 24");
        NonsenseRows x = Due.told("thing easy 1;thing easy 2;thing easy 3;row 0 1;row 1 2;hold 12;lean place 100;grow place by easy;");
        // twelve and one; six and one
        DUE.is("verse(0, 1)", x.verse(0, 1), 1857);
        DUE.is("verse(1, 0)", x.verse(1, 0), 538);
        x.read(0, 5);
        DUE.is("verse(0, 0)", x.verse(0, 0), 1000);
        DUE.is("verse(0, 1)", x.verse(0, 1), 1857);
        DUE.is("verse(0, 2)", x.verse(0, 2), NOTHING);
        DUE.is("verse(2, 0)", x.verse(2, 0), NOTHING);
        DUE.is("verse(-1, 0)", x.verse(-1, 0), NOTHING);
        NonsenseRows y = Due.told("thing easy 0;thing easy 2;thing easy 3;row 0 1;row 1 2;hold 12;lean place 100;grow place by easy;");
        DUE.is("verse(0, 1) of NONE", y.verse(0, 1), NOTHING);
        DUE.is("verse(1, 0) of NONE", y.verse(1, 0), NOTHING);
    }

    private static void near() {
        DUE.about("promise 25");
        NonsenseRows x = Due.told(THINGS + "row 0 1 2 3;row 0 2 1 3;row 3 0;");
        DUE.is("near(0, 0, 1, false)", x.near(0, 0, 1, false), 3);
        DUE.is("near(0, 0, 1, true)", x.near(0, 0, 1, true), 0);
        // 0 1 is two off, 1 2 one off turned, 2 3 two off
        DUE.is("near(0, 1, 2, false)", x.near(0, 1, 2, false), 2);
        DUE.is("near(0, 1, 1, true)", x.near(0, 1, 1, true), 1);
        DUE.is("near(0, 1, 1, false)", x.near(0, 1, 1, false), 0);
        DUE.is("near(2, 0, 3, true)", x.near(2, 0, 3, true), 1);
        DUE.is("near(2, 0, 3, false)", x.near(2, 0, 3, false), 0);
        DUE.is("near(0, 2, 1, false)", x.near(0, 2, 1, false), 0);
        DUE.is("near(0, 1, 11, false)", x.near(0, 1, 11, false), 0);
        DUE.is("near(0, 1, 12, false)", x.near(0, 1, 12, false), -2);
        DUE.is("near(0, 1, 0, false)", x.near(0, 1, 0, false), -2);
        DUE.is("near(0, 1, LEAST, true)", x.near(0, 1, LEAST, true), -2);
        DUE.is("near(3, 0, 1, false)", x.near(3, 0, 1, false), -2);
        DUE.is("near(0, 3, 1, false)", x.near(0, 3, 1, false), -2);
        DUE.is("near(MOST, -1, 1, false)", x.near(MOST, -1, 1, false), -2);
    }

    private static void nothingStays() {
        DUE.about("on paper");
        NonsenseRows x = Due.told(STEADY);
        x.read(0, 3);
        x.waits(4);
        x.read(1, 2);
        x.needs(0);
        x.fresh(0);
        x.saving(1);
        x.after(0, 5);
        x.lasts(0);
        x.gone(0);
        x.without(0, 3);
        x.between(0, 1, 5);
        x.evening(0, 3, 3);
        x.when(0);
        x.must(0);
        x.verse(0, 1);
        x.fit(0, 3, 0, 20, 0);
        x.spread(0, 3, 3);
        x.left(0, 3, 3, 0);
        x.left(0, 3, 3, 2);
        DUE.is("count(4)", x.count(4), 4);
        DUE.is("count(5)", x.count(5), 2);
        DUE.is("count(6)", x.count(6), 2);
        DUE.is("used(0)", x.used(0), 3);
        DUE.is("used(1)", x.used(1), 2);
        DUE.is("strength(3, 0, 0)", x.strength(3, 0, 0), 26);
        DUE.is("strength(3, 1, 0)", x.strength(3, 1, 0), 20);
        DUE.is("links(3)", x.links(3), 6);
        DUE.is("links(0)", x.links(0), 0);
    }
}
