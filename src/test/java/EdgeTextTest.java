/** Each sentence of "Terms" I and of promises 1 to 5 that names an edge: at it, and just beyond. */
public final class EdgeTextTest {
    private static final Due DUE = new Due();
    private static final int MOST = Integer.MAX_VALUE;
    private static final int LEAST = Integer.MIN_VALUE;
    private static final int NOTHING = -2000000000;
    private static final String THING = "thing easy 3;";
    private static final String TWO = THING + THING;
    private static final String[] SORTS = {"next", "back", "off", "place"};

    public static void main(String[] args) {
        mostThings();
        mostRows();
        thingsOfARow();
        toldAhead();
        noneTwice();
        boundsOfNumbers();
        boundsInASum();
        eachOnce();
        eachOnceInATextAlone();
        mixOfNextAlone();
        blanks();
        lettersAndDigits();
        theLongest();
        grammar();
        placeOfAFault();
        theFirstByItsPlace();
        ofOnePlaceTheLeast();
        newObject();
        newObjectRefuses();
        feedFull();
        feedHighestFirst();
        endBounds();
        endLeavesNothingBehind();
        fullTape();
        textEmpty();
        textInPlaceOfAnother();
        textWithAFault();
        faultBounds();
        DUE.end("EdgeTextTest");
    }

    private static void fault(String text, int kind, int place) {
        NonsenseRows x = new NonsenseRows();
        int answer = Due.tell(x, text);
        DUE.is("text() of " + text, answer, -4);
        DUE.is("fault(0) of " + text, x.fault(0), kind);
        DUE.is("fault(1) of " + text, x.fault(1), place);
    }

    private static NonsenseRows good(String text, int rows) {
        NonsenseRows x = new NonsenseRows();
        DUE.is("text() of " + text, Due.tell(x, text), rows);
        DUE.is("fault(0) of " + text, x.fault(0), 0);
        DUE.is("fault(1) of " + text, x.fault(1), -1);
        return x;
    }

    // ---- Terms I

    private static void mostThings() {
        DUE.about("I: THINGS (24 at most); 3 a 25th THING (at its first TOKEN)");
        DUE.is("count(0) of none", good("", 0).count(0), 0);
        DUE.is("count(0) of 1", good(THING, 0).count(0), 1);
        DUE.is("count(0) of 23", good(THING.repeat(23), 0).count(0), 23);
        NonsenseRows x = good(THING.repeat(23) + "thing easy 7;row 23 0;grow next by easy;", 1);
        DUE.is("count(0) of 24", x.count(0), 24);
        DUE.is("law(0, 0, 0, 23)", x.law(0, 0, 0, 23), 7);
        DUE.is("law(0, 0, 0, 24)", x.law(0, 0, 0, 24), NOTHING);
        fault(THING.repeat(25), 3, 24 * 13);
        fault(THING.repeat(24) + "hold 1;\n " + "thing", 3, 24 * 13 + 9);
    }

    private static void mostRows() {
        DUE.about("I: ROWS (12); 3 a 13th ROW (at its first TOKEN)");
        DUE.is("count(1) of 1", good(TWO + "row 0 1;", 1).count(1), 1);
        DUE.is("count(1) of 11", good(TWO + "row 0 1;".repeat(11), 11).count(1), 11);
        NonsenseRows x = good(TWO + "row 0 1;".repeat(11) + "row 1 0;", 12);
        DUE.is("count(1) of 12", x.count(1), 12);
        DUE.is("thing(11, 0)", x.thing(11, 0), 1);
        DUE.is("thing(12, 0)", x.thing(12, 0), -2);
        fault(TWO + "row 0 1;".repeat(13), 3, 26 + 96);
        fault(TWO + "row 0 1;".repeat(12) + " \nrow", 3, 26 + 98);
    }

    private static void thingsOfARow() {
        DUE.about("I: a ROW: 2 .. 12 THINGS; 3 a 13th THING of a ROW (at it)");
        fault(TWO + "row;", 1, 29);
        fault(TWO + "row 0;", 1, 31);
        DUE.is("thing(0, 2) of two", good(TWO + "row 0 1;", 1).thing(0, 2), -1);
        String eleven = "row 0 1 2 3 4 5 6 7 8 9 10";
        NonsenseRows x = good(THING.repeat(13) + eleven + " 11;", 1);
        DUE.is("thing(0, 11) of twelve", x.thing(0, 11), 11);
        DUE.is("thing(0, 12) of twelve", x.thing(0, 12), -1);
        fault(THING.repeat(13) + eleven + " 11 12;", 3, 169 + 30);
        fault(THING.repeat(14) + eleven + " 11  12 13;", 3, 182 + 31);
        fault(THING.repeat(13) + eleven + " 11 12", 3, 169 + 30);
    }

    private static void toldAhead() {
        DUE.about("I: THINGS told ahead; 2 a THING of a ROW not told");
        good(TWO + "row 1 0;", 1);
        fault(TWO + "row 2 0;", 2, 30);
        fault(TWO + "row 0 2;", 2, 32);
        fault(THING + "row 0 1;" + THING, 2, 19);
        fault("row 0 1;" + TWO, 2, 4);
        good(THING.repeat(24) + "row 22 23;", 1);
        fault(THING.repeat(24) + "row 23 24;", 2, 312 + 7);
        fault(TWO + "row 0 4294967297;", 2, 32);
        fault(TWO + "row 0 18446744073709551617;", 2, 32);
    }

    private static void noneTwice() {
        DUE.about("I: none twice; 2 a THING .. that it has");
        fault(TWO + "row 0 0;", 2, 32);
        fault(TWO + "row 0 1 1;", 2, 34);
        fault(TWO + "row 0 1 0;", 2, 34);
        fault(TWO + "row 0 00;", 2, 32);
        fault(THING.repeat(12) + "row 11 10 9 8 7 6 5 4 3 2 1 11;", 2, 156 + 28);
        good(TWO + "row 0 1;row 0 1;row 1 0;", 3);
    }

    private static void boundsOfNumbers() {
        DUE.about("I: easy 0 .. 9, hold 0 .. 5000, lean 0 .. 100; 2 a number out of its bounds");
        DUE.is("easy 0", good("thing easy 0;grow next by easy;", 0).law(0, 0, 0, 0), 0);
        DUE.is("easy 9", good("thing easy 9;grow next by easy;", 0).law(0, 0, 0, 0), 9);
        fault("thing easy 10;", 2, 11);
        DUE.is("hold 0", good("hold 0;", 0).count(7), 0);
        DUE.is("hold 4999", good("hold 4999;", 0).count(7), 4999);
        DUE.is("hold 5000", good("hold 5000;", 0).count(7), 5000);
        fault("hold 5001;", 2, 5);
        for (int sort = 0; sort < 4; sort++) {
            String lean = "lean " + SORTS[sort] + " ";
            DUE.is(lean + 0, good(lean + "0;", 0).count(8 + sort), 0);
            DUE.is(lean + 99, good(lean + "99;", 0).count(8 + sort), 99);
            DUE.is(lean + 100, good(lean + "100;", 0).count(8 + sort), 100);
            fault(lean + "101;", 2, lean.length());
        }
        DUE.is("a number with noughts ahead", good("hold 000000000000005000;", 0).count(7), 5000);
        fault("hold 000000000000005001;", 2, 5);
        fault("hold 4294967296;", 2, 5);
        fault("hold 2147483648;", 2, 5);
        fault("hold 18446744073709551616;", 2, 5);
        fault("thing easy 4294967296;", 2, 11);
        fault("lean off 4294967296;", 2, 9);
    }

    private static void boundsInASum() {
        DUE.about("I: N in a SUM 0 .. 1000");
        for (int law = 0; law < 9; law++) {
            String words = law == 8 ? "mix next by " : (law < 4 ? "grow " : "fall ") + SORTS[law % 4] + " by ";
            int what = law == 8 ? 2 : law / 4;
            DUE.is(words + 0, good(THING + words + "0;", 0).law(what, law % 4, 0, 0), 0);
            DUE.is(words + 1000, good(THING + words + "1000;", 0).law(what, law % 4, 0, 0), 1000);
            fault(words + "1001;", 2, words.length());
        }
        for (String joint : new String[] {"plus", "minus", "times", "over"}) {
            good("grow next by has " + joint + " 0;", 0);
            good("grow next by has " + joint + " 1000;", 0);
            fault("grow next by has " + joint + " 1001;", 2, 18 + joint.length());
            fault("grow next by 7 " + joint + " has " + joint + " 1001;", 2, 21 + 2 * joint.length());
        }
        fault("grow next by 4294967296;", 2, 13);
    }

    private static void eachOnce() {
        DUE.about("I: each LAW of a SORT, hold, each lean once at most; 2 .. told already (at its SORT), hold (at the word)");
        StringBuilder laws = new StringBuilder();
        StringBuilder leans = new StringBuilder();
        for (String sort : SORTS) {
            for (String law : new String[] {"grow ", "fall "}) {
                String line = law + sort + " by 0;";
                good(line, 0);
                fault(line + line, 2, line.length() + 5);
                fault(line + law + sort, 2, line.length() + 5);
                laws.append(line);
            }
            String lean = "lean " + sort + " 0;";
            good(lean, 0);
            fault(lean + lean, 2, lean.length() + 5);
            fault(lean + "hold 1;" + "lean " + sort, 2, lean.length() + 12);
            leans.append(lean);
        }
        fault("mix next by 0;mix next by 1;", 2, 14 + 4);
        fault("hold 0;hold 0;", 2, 7);
        fault("hold 0; " + "hold", 2, 8);
        String all = laws + "mix next by 0;" + leans + "hold 0;";
        DUE.is("count(2) of each once", good(all, 0).count(2), 8 + 1 + 4 + 1);
    }

    private static void eachOnceInATextAlone() {
        DUE.about("I: told already: in this TEXT");
        String all = TWO + "row 0 1;hold 1;lean next 1;lean back 2;lean off 3;lean place 4;grow next by 1;grow back by 1;grow off by 1;"
            + "grow place by 1;fall next by 1;fall back by 1;fall off by 1;fall place by 1;mix next by 1;";
        NonsenseRows x = new NonsenseRows();
        for (int times = 0; times < 3; times++) {
            DUE.is("text()", Due.tell(x, all), 1);
            DUE.is("text() with a FAULT", Due.tell(x, all + "?"), -4);
            DUE.is("fault(0)", x.fault(0), 1);
            DUE.is("fault(1)", x.fault(1), all.length());
        }
        String parts = THING + "grow next by 1" + "plus1".repeat(174) + ";";
        for (int times = 0; times < 4; times++) {
            DUE.is("text() of many PARTS", Due.tell(x, parts), 0);
            DUE.is("law(0, 0, 0, 0)", x.law(0, 0, 0, 0), 175);
            DUE.is("text() without", Due.tell(x, THING), 0);
            DUE.is("law(0, 0, 0, 0) without", x.law(0, 0, 0, 0), 0);
        }
    }

    private static void mixOfNextAlone() {
        DUE.about("I: of mix: next alone");
        good("mix next by 1;", 0);
        fault("mix back by 1;", 1, 4);
        fault("mix off by 1;", 1, 4);
        fault("mix place by 1;", 1, 4);
    }

    private static void blanks() {
        DUE.about("I: blanks (32, 10) aside");
        DUE.is("count(7)", good(" \n hold\n\n 12 \n;\n", 0).count(7), 12);
        good("\n", 0);
        good(" ", 0);
        for (int sign : new int[] {0, 9, 11, 12, 13, 31, 33, 127, 128, 138, 160, 255}) {
            fault("hold 1" + (char) sign + ";", 1, 6);
            fault((char) sign + "", 1, 0);
        }
        fault("ho ld 1;", 1, 0);
        fault("hold 1 2;", 1, 7);
    }

    private static void lettersAndDigits() {
        DUE.about("I: words (a .. z), numbers (digits), the sign ;");
        for (char sign : new char[] {'`', '{', '@', 'A', 'Z', '[', '/', ':', '<', '-', '+', ',', '.', (char) 225, (char) 186}) {
            fault("hold" + sign + " 1;", 1, 4);
            fault("hold 1" + sign + ";", 1, 6);
            fault("hold 1;" + sign, 1, 7);
        }
        DUE.is("digits 0 to 9", good("hold 0;", 0).count(7) + good("hold 1239;", 0).count(7), 1239);
        fault("hold a1;", 1, 5);
        fault("holda 1;", 1, 0);
        fault("holdz 1;", 1, 0);
        fault("zold 1;", 1, 0);
        fault("a", 1, 0);
        fault("z", 1, 0);
    }

    private static void theLongest() {
        DUE.about("I: the longest");
        good("hold1;", 0);
        DUE.is("hold 50 is no 5", good("hold 50;", 0).count(7), 50);
        good("thing easy3;thing easy3;row0 1;", 1);
        fault("thingeasy 3;", 1, 0);
        fault("holdx 1;", 1, 0);
        fault("hold 1x;", 1, 6);
        fault("hol", 1, 0);
        fault("grow next by has2;", 1, 16);
        DUE.is("2plus3", good(THING + "grow next by 2plus3;", 0).law(0, 0, 0, 0), 5);
    }

    private static void grammar() {
        DUE.about("I: 1 a TOKEN that .. can't stand there");
        for (String word : new String[] {"next", "back", "off", "place", "plus", "minus", "times", "over", "has", "left", "easy", "tired",
            "hour", "by", "7", ";", "other"}) {
            fault(word, 1, 0);
            fault("hold 1;" + word + ";", 1, 7);
        }
        fault("thing thing 3;", 1, 6);
        fault("thing 3;", 1, 6);
        fault("thing easy ;", 1, 11);
        fault("thing easy easy;", 1, 11);
        fault("thing easy 3 3;", 1, 13);
        fault("hold ;", 1, 5);
        fault("hold 3 ;;", 1, 8);
        fault(TWO + "row 0 1 next;", 1, 34);
        fault("lean hold 3;", 1, 5);
        fault("lean next ;", 1, 10);
        fault("lean next 3 4;", 1, 12);
        fault("grow next next 3;", 1, 10);
        fault("grow next by ;", 1, 13);
        fault("grow next by by;", 1, 13);
        for (String word : new String[] {"thing", "row", "hold", "lean", "next", "place", "grow", "mix", "plus", "over"}) {
            fault("grow next by " + word + ";", 1, 13);
            fault("grow next by 1 plus " + word + ";", 1, 20);
        }
        for (String word : new String[] {"grow", "plus", "has", "thing", "by", "1", ";"}) {
            fault("grow " + word + " by 1;", 1, 5);
            fault("lean " + word + " 1;", 1, 5);
        }
        fault("grow next by 3 3;", 1, 15);
        fault("grow next by has has;", 1, 17);
        fault("grow next by 3 plus ;", 1, 20);
        fault("grow next by 3 plus times 3;", 1, 20);
        fault("grow next by 3 by 3;", 1, 15);
        fault("grow next by 3 grow;", 1, 15);
        fault("grow mix by 3;", 1, 5);
    }

    private static void placeOfAFault() {
        DUE.about("I: its place (a TOKEN's first byte; the end's)");
        fault("   \n\nholds 1;", 1, 5);
        fault("hold\n  9999;", 2, 7);
        fault("hold", 1, 4);
        fault("hold 12", 1, 7);
        fault("hold 12  \n", 1, 10);
        fault("thing", 1, 5);
        fault("thing easy", 1, 10);
        fault("lean", 1, 4);
        fault("lean next", 1, 9);
        fault("lean next 1", 1, 11);
        fault("grow", 1, 4);
        fault("grow next", 1, 9);
        fault("grow next by", 1, 12);
        fault("grow next by 1", 1, 14);
        fault("grow next by 1 over", 1, 19);
        fault(TWO + "row", 1, 29);
        fault(TWO + "row 0", 1, 31);
        fault(TWO + "row 0 1", 1, 33);
        fault(" ".repeat(899) + "x", 1, 899);
        fault("hold" + " ".repeat(896), 1, 900);
    }

    private static void theFirstByItsPlace() {
        DUE.about("I: FAULTS, the first by its place");
        fault("hold 5001 1;", 2, 5);
        fault("hold 1 5001;", 1, 7);
        fault("hold 5001;?", 2, 5);
        fault("?hold 5001;", 1, 0);
        fault("lean next 101;lean next 1;", 2, 10);
        fault("lean next 1;lean next 101;", 2, 17);
        fault(THING.repeat(24) + "thing easy 10;", 3, 312);
        fault(THING.repeat(23) + "thing easy 10;" + THING, 2, 299 + 11);
        fault(TWO + "row 0 1;".repeat(12) + "row 0 0;", 3, 122);
        fault(TWO + "row 0 1;".repeat(11) + "row 0 0;row 0 1;", 2, 114 + 6);
        fault("hold 1;hold 5001;", 2, 7);
    }

    private static void ofOnePlaceTheLeast() {
        DUE.about("I: of one place the least");
        String twelve = THING.repeat(13) + "row 0 1 2 3 4 5 6 7 8 9 10 11 ";
        int at = twelve.length();
        fault(twelve + "12;", 3, at);
        fault(twelve + "13;", 2, at);
        fault(twelve + "11;", 2, at);
        fault(twelve + "0;", 2, at);
        fault(twelve + "99999999999;", 2, at);
        fault(twelve + "x;", 1, at);
        fault(twelve + "row", 1, at);
    }

    // ---- promises

    private static void newObject() {
        DUE.about("1: no THINGS, no ROWS, no LAWS, HOLD 0, all LEANS 0; no LINKS, hour 0");
        NonsenseRows x = new NonsenseRows();
        for (int what = 0; what <= 12; what++) {
            DUE.is("count(" + what + ")", x.count(what), 0);
        }
        for (int sort = 0; sort < 4; sort++) {
            DUE.is("links(" + sort + ")", x.links(sort), 0);
            DUE.is("strength(" + sort + ", 0, 0)", x.strength(sort, 0, 0), -2);
        }
        DUE.is("forget()", x.forget(), 0);
        DUE.is("waits(1)", x.waits(1), 1);
    }

    private static void newObjectRefuses() {
        DUE.about("1: no TEXT: all that asks for a ROW is refused");
        NonsenseRows x = new NonsenseRows();
        for (int row : new int[] {0, -1, 1, 11, 12, MOST, LEAST}) {
            long[] answers = {x.read(row, 1), x.learn(row), x.support(row, 0), x.slips(row), x.needs(row), x.fresh(row), x.after(row, 0),
                x.lasts(row), x.gone(row), x.without(row, 0), x.when(row), x.must(row), x.near(row, row, 1, true), x.shuffled(row, 1),
                x.backward(row), x.thing(row, 0), x.used(row)};
            for (int i = 0; i < answers.length; i++) {
                DUE.is("call " + i + " with ROW " + row, answers[i], -2);
            }
            long[] nothings = {x.saving(row), x.between(row, 1, 1), x.evening(row, 0, 0), x.verse(row, row), x.law(0, 0, 0, row)};
            for (int i = 0; i < nothings.length; i++) {
                DUE.is("NOTHING " + i + " with ROW " + row, nothings[i], NOTHING);
            }
            long[] nones = {x.spread(row, 1, 1), x.left(row, 1, 1, 0), x.book(row, 0), x.sitting(row, 0)};
            for (int i = 0; i < nones.length; i++) {
                DUE.is("NONE " + i + " with ROW " + row, nones[i], -1);
            }
        }
    }

    private static void blanks20(NonsenseRows x, int due) {
        DUE.is("feed()", x.feed(0x20202020, 0x20202020, 0x20202020, 0x20202020, 0x20202020), due);
    }

    private static void feedFull() {
        DUE.about("2: NONE, and none come, if it would have more than 900");
        NonsenseRows x = new NonsenseRows();
        for (int i = 1; i <= 45; i++) {
            blanks20(x, 20 * i);
        }
        blanks20(x, -1);
        DUE.is("count(3)", x.count(3), 900);
        x.end(881);
        blanks20(x, -1);
        DUE.is("count(3)", x.count(3), 881);
        DUE.is("the TAPE has no more: end(882)", x.end(882), -1);
        x.end(880);
        blanks20(x, 900);
        DUE.is("none came in the way of the TEXT", x.text(), 0);
        blanks20(x, 20);
        x.end(3);
        blanks20(x, 23);
    }

    private static void feedHighestFirst() {
        DUE.about("2: four of each number, the highest first, behind the TAPE");
        NonsenseRows x = new NonsenseRows();
        x.feed(0x686f6c64, 0x20313233, 0x343b2020, 0x20202020, 0x20202020);
        DUE.is("text()", x.text(), 0);
        DUE.is("hold 1234", x.count(7), 1234);
        x.feed(0x20202020, 0x20202020, 0x20202020, 0x20202020, 0x20686f6c);
        x.feed(0x64373b20, 0x20202020, 0x20202020, 0x20202020, 0x20202020);
        DUE.is("text() of two", x.text(), 0);
        DUE.is("hold 7 across two", x.count(7), 7);
        int[] words = {0x20202020, 0x20202020, 0x20202020, 0x20202020, 0x20202020};
        for (int at = 0; at < 20; at++) {
            int[] w = words.clone();
            w[at / 4] = w[at / 4] & ~(255 << 24 - at % 4 * 8) | 0xff << 24 - at % 4 * 8;
            x.feed(w[0], w[1], w[2], w[3], w[4]);
            DUE.is("text() with byte " + at, x.text(), -4);
            DUE.is("fault(1) with byte " + at, x.fault(1), at);
            x.end(0);
        }
    }

    private static void endBounds() {
        DUE.about("3: NONE, and nothing happens, if it has not so many, or n is below 0");
        NonsenseRows x = new NonsenseRows();
        DUE.refused(x, "end(1) of none", () -> x.end(1), -1);
        DUE.is("end(0) of none", x.end(0), 0);
        blanks20(x, 20);
        DUE.refused(x, "end(21)", () -> x.end(21), -1);
        DUE.refused(x, "end(-1)", () -> x.end(-1), -1);
        DUE.refused(x, "end(MOST)", () -> x.end(MOST), -1);
        DUE.refused(x, "end(LEAST)", () -> x.end(LEAST), -1);
        DUE.is("end(20)", x.end(20), 20);
        DUE.is("end(19)", x.end(19), 19);
        DUE.refused(x, "end(20) of 19", () -> x.end(20), -1);
        DUE.is("end(0)", x.end(0), 0);
        DUE.is("count(3)", x.count(3), 0);
        for (int i = 1; i <= 45; i++) {
            blanks20(x, 20 * i);
        }
        DUE.refused(x, "end(901)", () -> x.end(901), -1);
        DUE.is("end(900)", x.end(900), 900);
        Due.feed(x, "hold 5;hold 6;");
        x.end(7);
        DUE.is("the first n bytes alone", x.text(), 0);
        DUE.is("count(7)", x.count(7), 5);
    }

    private static void endLeavesNothingBehind() {
        DUE.about("3: the TAPE has its first n bytes alone");
        String[] texts = {"hold 5001;", "hold 5000;", "holding 1;"};
        int[] cuts = {8, 9, 4};
        for (int i = 0; i < texts.length; i++) {
            NonsenseRows x = new NonsenseRows();
            Due.feed(x, texts[i]);
            x.end(cuts[i]);
            DUE.is("text() of the first " + cuts[i] + " of " + texts[i], x.text(), -4);
            DUE.is("fault(0)", x.fault(0), 1);
            DUE.is("fault(1)", x.fault(1), cuts[i]);
        }
    }

    private static void fullTape() {
        DUE.about("2: a TAPE of 900 bytes as a TEXT");
        fault(";".repeat(900), 1, 0);
        fault("hold 1" + ";".repeat(894), 1, 7);
        fault("?".repeat(900), 1, 0);
        fault("hold " + "0".repeat(895), 1, 900);
        fault("hold " + "9".repeat(895), 2, 5);
        fault("x".repeat(900), 1, 0);
        fault("hold 1;" + "x".repeat(893), 1, 7);
        fault(" ".repeat(898) + "ho", 1, 898);
        fault(" ".repeat(896) + "hold", 1, 900);
        DUE.is("count(7)", good("hold " + "0".repeat(890) + "1234;", 0).count(7), 1234);
        StringBuilder lines = new StringBuilder("thing easy 1;".repeat(2) + "hold 1;lean next 1;grow next by 1;");
        String tokens = lines + "row 0 1;".repeat(12);
        NonsenseRows x = good(" ".repeat(900 - tokens.length()) + tokens, 12);
        DUE.is("count(2)", x.count(2), 17);
        DUE.is("a LAW of 175 PARTS", good("thing easy 1;grow next by 1" + "plus1".repeat(174) + ";", 0).law(0, 0, 0, 0), 175);
    }

    private static void textEmpty() {
        DUE.about("4: the TAPE (empty then) is the TEXT, an empty one too");
        NonsenseRows x = Due.told(TWO + "row 0 1;hold 3;lean next 4;grow next by 5;");
        DUE.is("count(3) behind text()", x.count(3), 0);
        DUE.is("end(1) behind text()", x.end(1), -1);
        DUE.is("text() of an empty TAPE", x.text(), 0);
        int[] whats = {0, 1, 2, 3, 7, 8};
        for (int what : whats) {
            DUE.is("count(" + what + ")", x.count(what), 0);
        }
        DUE.is("thing(0, 0)", x.thing(0, 0), -2);
    }

    private static void textInPlaceOfAnother() {
        DUE.about("4: in place of another: the HEAD is as at first, the BOOK empty");
        NonsenseRows x = Due.told(TWO + THING + "row 0 1 2;row 2 1;hold 3;lean next 4;lean back 5;lean off 6;lean place 7;grow next by 5;"
            + "grow place by 7;fall next by 1;mix next by 2;");
        x.waits(30);
        x.read(0, 5);
        x.backward(0);
        DUE.is("text()", Due.tell(x, TWO + "row 1 0;grow place by 9;"), 1);
        int[] due = {2, 1, 4, 0, 0, 0, 0, 0, 0, 0, 0, 0, 0};
        for (int what = 0; what < due.length; what++) {
            DUE.is("count(" + what + ")", x.count(what), due[what]);
        }
        DUE.is("links(0)", x.links(0), 0);
        DUE.is("links(3)", x.links(3), 0);
        DUE.is("strength(3, 0, 0)", x.strength(3, 0, 0), 0);
        DUE.is("used(0)", x.used(0), 0);
        DUE.is("thing(1, 0)", x.thing(1, 0), -2);
        DUE.is("sitting(0, 0)", x.sitting(0, 0), -1);
        DUE.is("law(0, 0, 0, 0)", x.law(0, 0, 0, 0), 0);
        DUE.is("law(1, 0, 0, 0)", x.law(1, 0, 0, 0), 0);
        DUE.is("law(2, 0, 0, 0)", x.law(2, 0, 0, 0), 0);
        DUE.is("law(0, 3, 0, 0)", x.law(0, 3, 0, 0), 9);
        DUE.is("fit() has all ROWS there at first", x.fit(0, 0, 0, 0, 0), 1);
    }

    private static void textWithAFault() {
        DUE.about("4: -4: a FAULT (all stays)");
        NonsenseRows x = Due.told(TWO + THING + "row 0 1 2;row 2 1;hold 3;lean next 4;grow next by 5;grow place by hour plus tired;");
        x.waits(3);
        x.read(0, 2);
        x.backward(1);
        x.row(2, 1, 3);
        x.keep(1);
        String[] texts = {"thing easy 1;thing easy 2;row 1 0;hold 9;lean back 7;grow next by 1;;", "hold 5001;", THING.repeat(25),
            TWO + "row 0 1;".repeat(13), "x"};
        for (String text : texts) {
            String before = Look.at(x).replaceFirst("fault .*", "");
            DUE.is("text() of " + text, Due.tell(x, text), -4);
            DUE.is("all stays: " + Look.at(x), Look.at(x).replaceFirst("fault .*", "").equals(before) ? 1 : 0, 1);
            DUE.is("the TAPE is empty then", x.count(3), 0);
        }
        DUE.is("back(1)", x.back(1), 0);
        DUE.is("read(0, 1) goes on", x.read(0, 1), 2);
        DUE.is("text() of a good one", Due.tell(x, TWO + "row 0 1;"), 1);
    }

    private static void faultBounds() {
        DUE.about("5: of the latest text(); NONE for another what, and ahead of any (what 1)");
        NonsenseRows x = new NonsenseRows();
        DUE.is("fault(0) ahead of any", x.fault(0), 0);
        DUE.is("fault(1) ahead of any", x.fault(1), -1);
        for (int what : new int[] {-1, 2, MOST, LEAST}) {
            DUE.is("fault(" + what + ") ahead of any", x.fault(what), -1);
        }
        Due.tell(x, "hold 5001;");
        DUE.is("fault(0)", x.fault(0), 2);
        DUE.is("fault(1)", x.fault(1), 5);
        for (int what : new int[] {-1, 2, MOST, LEAST}) {
            DUE.is("fault(" + what + ")", x.fault(what), -1);
        }
        x.end(0);
        Due.feed(x, "x");
        DUE.is("fault(0) till the next text()", x.fault(0), 2);
        x.text();
        DUE.is("fault(0) of the latest", x.fault(0), 1);
        DUE.is("fault(1) of the latest", x.fault(1), 0);
        x.keep(0);
        x.text();
        DUE.is("fault(0) without", x.fault(0), 0);
        DUE.is("fault(1) without", x.fault(1), -1);
        x.back(0);
        DUE.is("fault(0) behind back()", x.fault(0), 0);
    }
}
