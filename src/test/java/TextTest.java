/** Promises 1 to 5: the new object, the tape, the text and its faults. */
public final class TextTest {
    private static final Due DUE = new Due();
    private static final int NOTHING = -2000000000;

    public static void main(String[] args) {
        newObject();
        feed();
        end();
        text();
        faultKinds();
        faultBounds();
        faultTwice();
        faultTooMany();
        faultCall();
        fullTape();
        DUE.end("TextTest");
    }

    private static void newObject() {
        DUE.about("promise 1");
        NonsenseRows x = new NonsenseRows();
        for (int what = 0; what <= 12; what++) {
            DUE.is("count(" + what + ")", x.count(what), 0);
        }
        for (int sort = 0; sort < 4; sort++) {
            DUE.is("links(" + sort + ")", x.links(sort), 0);
        }
        DUE.is("slips(0)", x.slips(0), -2);
        DUE.is("law(0, 0, 0, 0)", x.law(0, 0, 0, 0), NOTHING);
        DUE.is("waits(0)", x.waits(0), 0);
    }

    private static void feed() {
        DUE.about("promise 2");
        NonsenseRows x = new NonsenseRows();
        for (int i = 1; i <= 45; i++) {
            DUE.is("feed " + i, x.feed(0x20202020, 0x20202020, 0x20202020, 0x20202020, 0x20202020), 20 * i);
        }
        DUE.is("feed beyond", x.feed(0, 0, 0, 0, 0), -1);
        DUE.is("count(3)", x.count(3), 900);
        DUE.is("end(881)", x.end(881), 881);
        DUE.is("feed beyond by one", x.feed(0, 0, 0, 0, 0), -1);
        DUE.is("count(3)", x.count(3), 881);
        DUE.is("end(880)", x.end(880), 880);
        DUE.is("feed to the last", x.feed(0x20202020, 0x20202020, 0x20202020, 0x20202020, 0x20202020), 900);
        DUE.is("text()", x.text(), 0);
        // "hold 7;" told by its numbers: the highest byte is the first
        DUE.is("feed", x.feed(0x686f6c64, 0x20373b20, 0x20202020, 0x0a0a0a0a, 0x20202020), 20);
        DUE.is("text()", x.text(), 0);
        DUE.is("count(7)", x.count(7), 7);
        DUE.is("feed of a high byte", x.feed(0x20202020, 0xff000000, 0, 0, 0), 20);
        DUE.is("text()", x.text(), -4);
        DUE.is("fault(1)", x.fault(1), 4);
    }

    private static void end() {
        DUE.about("promise 3");
        NonsenseRows x = new NonsenseRows();
        DUE.is("end(1)", x.end(1), -1);
        DUE.is("end(0)", x.end(0), 0);
        x.feed(0x686f6c64, 0x20373b20, 0x20202020, 0x0a0a0a0a, 0x61616161);
        DUE.is("end(21)", x.end(21), -1);
        DUE.is("end(-1)", x.end(-1), -1);
        DUE.is("count(3)", x.count(3), 20);
        DUE.is("end(20)", x.end(20), 20);
        DUE.is("end(16)", x.end(16), 16);
        DUE.is("end(17)", x.end(17), -1);
        DUE.is("text()", x.text(), 0);
        DUE.is("count(7)", x.count(7), 7);
    }

    private static void text() {
        DUE.about("promise 4");
        NonsenseRows x = new NonsenseRows();
        String text = "thing easy 3;thing easy0;\nthing  easy 009 ; row 0 1 ; row 2 1 0;hold 100;"
            + "lean next 50;lean place 100;grow next by 100;fall next by has over 10;mix next by 7;";
        DUE.is("text()", Due.tell(x, text), 2);
        DUE.is("count(0)", x.count(0), 3);
        DUE.is("count(1)", x.count(1), 2);
        DUE.is("count(2)", x.count(2), 11);
        DUE.is("count(3)", x.count(3), 0);
        DUE.is("count(7)", x.count(7), 100);
        DUE.is("count(8)", x.count(8), 50);
        DUE.is("count(9)", x.count(9), 0);
        DUE.is("count(11)", x.count(11), 100);
        x.read(0, 3);
        x.waits(5);
        x.row(1, 0, 4);
        DUE.is("text() with a fault", Due.tell(x, "thing easy 3;row 0 1;"), -4);
        DUE.is("count(3): the TAPE is empty then", x.count(3), 0);
        DUE.is("count(0) stays", x.count(0), 3);
        DUE.is("count(1) stays", x.count(1), 2);
        DUE.is("count(4) stays", x.count(4), 5);
        DUE.is("count(6) stays", x.count(6), 1);
        DUE.is("used(0) stays", x.used(0), 3);
        DUE.is("links(0) stays", x.links(0), 1);
        DUE.is("text() of another", Due.tell(x, "thing easy 1;thing easy 2;row 1 0;"), 1);
        DUE.is("count(0)", x.count(0), 2);
        DUE.is("count(2)", x.count(2), 3);
        DUE.is("count(4)", x.count(4), 0);
        DUE.is("count(6)", x.count(6), 0);
        DUE.is("count(7)", x.count(7), 0);
        DUE.is("count(8)", x.count(8), 0);
        DUE.is("count(12)", x.count(12), 1);
        DUE.is("links(0)", x.links(0), 0);
        DUE.is("used(0)", x.used(0), 0);
        DUE.is("law(0, 0, 1, 0)", x.law(0, 0, 1, 0), 0);
        DUE.is("text() of nothing", x.text(), 0);
        DUE.is("count(0)", x.count(0), 0);
        DUE.is("count(2)", x.count(2), 0);
    }

    private static void fault(String text, int kind, int place) {
        NonsenseRows x = new NonsenseRows();
        int answer = Due.tell(x, text);
        DUE.is("text() of " + text, answer < 0 ? answer : 0, kind == 0 ? 0 : -4);
        DUE.is("fault(0) of " + text, x.fault(0), kind);
        DUE.is("fault(1) of " + text, x.fault(1), place);
        DUE.is("count(3) behind " + text, x.count(3), 0);
    }

    private static void faultKinds() {
        DUE.about("promise 5, fault 1");
        fault("", 0, -1);
        fault(" \n ", 0, -1);
        fault(";", 1, 0);
        fault("hold 1;;", 1, 7);
        fault("hold 1", 1, 6);
        fault("hold 1 \n", 1, 8);
        fault("hold", 1, 4);
        fault("hold;", 1, 4);
        fault("hold one;", 1, 5);
        fault("hold1;", 0, -1);
        fault("1;", 1, 0);
        fault("Hold 1;", 1, 0);
        fault("holD 1;", 1, 0);
        fault("holdD 1;", 1, 4);
        fault("hold 1\t;", 1, 6);
        fault("hold 1\r;", 1, 6);
        fault("hold 1\u0000;", 1, 6);
        fault("hold -1;", 1, 5);
        fault("hold 1a;", 1, 6);
        fault("hold 1 2;", 1, 7);
        fault("holds 1;", 1, 0);
        fault("hol 1;", 1, 0);
        fault("holdz 1;", 1, 0);
        fault("hold 1 zold;", 1, 7);
        fault("aold 1;", 1, 0);
        fault("hxld 1;", 1, 0);
        fault("thing hard 1;", 1, 6);
        fault("thing 1;", 1, 6);
        fault("thing easy;", 1, 10);
        fault("thing easy 3;row;", 1, 16);
        fault("thing easy 3;row 0;", 1, 18);
        fault("thing easy 3;row 0 ", 1, 19);
        fault("thing easy 3;thing easy 3;row 0 1 one;", 1, 34);
        fault("thing easy 3;thing easy 3;row 0 1", 1, 33);
        fault("lean;", 1, 4);
        fault("lean mix 1;", 1, 5);
        fault("lean next;", 1, 9);
        fault("grow by 1;", 1, 5);
        fault("grow next 1;", 1, 10);
        fault("grow next by;", 1, 12);
        fault("grow next by plus 1;", 1, 13);
        fault("grow next by 1 plus;", 1, 19);
        fault("grow next by 1 plus minus 1;", 1, 20);
        fault("grow next by 1 1;", 1, 15);
        fault("grow next by 1 has;", 1, 15);
        fault("grow next by had;", 1, 13);
        fault("grow next by thing;", 1, 13);
        fault("grow next by over;", 1, 13);
        fault("grow next by 1 has 1;", 1, 15);
        fault("grow grow by 1;", 1, 5);
        fault("lean grow 1;", 1, 5);
        fault("plus next by 1;", 1, 0);
        fault("grow next by 1 times", 1, 20);
        fault("mix back by 1;", 1, 4);
        fault("mix off by 1;", 1, 4);
        fault("mix place by 1;", 1, 4);
        fault("mix next by 1;", 0, -1);
        fault("grow next by has plus left minus easy times tired over hour;", 0, -1);
        fault("hold 1; \u00e9", 1, 8);
    }

    private static void faultBounds() {
        DUE.about("promise 5, fault 2 of bounds");
        fault("thing easy 9;", 0, -1);
        fault("thing easy 10;", 2, 11);
        fault("thing easy 10", 2, 11);
        fault("hold 5000;", 0, -1);
        fault("hold 5001;", 2, 5);
        fault("hold 0005000;", 0, -1);
        fault("hold 99999999999999999999999999;", 2, 5);
        fault("hold 4294967296;", 2, 5);
        fault("lean off 100;", 0, -1);
        fault("lean off 101;", 2, 9);
        fault("grow off by 1000;", 0, -1);
        fault("grow off by 1001;", 2, 12);
        fault("grow off by 1 over 1001;", 2, 19);
        fault("thing easy 3;row 0 1;", 2, 19);
        fault("thing easy 3;row 1 0;", 2, 17);
        fault("row 0 1;thing easy 3;thing easy 3;", 2, 4);
        fault("thing easy 3;row 0 0;", 2, 19);
        fault("thing easy 3;thing easy 3;row 0 1 0;", 2, 34);
        fault("thing easy 3;row 0 4294967296;", 2, 19);
    }

    private static void faultTwice() {
        DUE.about("promise 5, fault 2 of what is told already");
        fault("hold 1;hold 2;", 2, 7);
        fault("hold 1;hold", 2, 7);
        fault("lean next 1;lean next 2;", 2, 17);
        fault("lean next 1;lean back 2;lean off 3;lean place 4;", 0, -1);
        fault("lean next 0;lean next 0;", 2, 17);
        fault("grow off by 1;grow off by 1;", 2, 19);
        fault("grow off by 1;fall off by 1;", 0, -1);
        fault("mix next by 1;mix next by 1;", 2, 18);
        fault("mix next by 1;mix back by 1;", 1, 18);
        fault("grow next by 0;grow next by 0;", 2, 20);
    }

    private static void faultTooMany() {
        DUE.about("promise 5, fault 3");
        String things = "thing easy 3;".repeat(24);
        fault(things, 0, -1);
        fault(things + "thing easy 3;", 3, 312);
        fault(things + "thing", 3, 312);
        fault(things + " thing hard 99;", 3, 313);
        String two = "thing easy 3;thing easy 3;";
        fault(two + "row 0 1;".repeat(12), 0, -1);
        fault(two + "row 0 1;".repeat(12) + "row 7;", 3, 26 + 96);
        String all = "row 0 1 2 3 4 5 6 7 8 9 10 11";
        fault("thing easy 3;".repeat(13) + all + ";", 0, -1);
        fault("thing easy 3;".repeat(13) + all + " 12;", 3, 169 + 30);
        fault("thing easy 3;".repeat(13) + all + " 13;", 2, 169 + 30);
        fault("thing easy 3;".repeat(13) + all + " 0;", 2, 169 + 30);
        fault("thing easy 3;".repeat(13) + all + " x;", 1, 169 + 30);
    }

    private static void faultCall() {
        DUE.about("promise 5");
        NonsenseRows x = new NonsenseRows();
        DUE.is("fault(0) ahead of any", x.fault(0), 0);
        DUE.is("fault(1) ahead of any", x.fault(1), -1);
        DUE.is("fault(2) ahead of any", x.fault(2), -1);
        Due.tell(x, "hold 5001;");
        DUE.is("fault(0)", x.fault(0), 2);
        DUE.is("fault(1)", x.fault(1), 5);
        DUE.is("fault(2)", x.fault(2), -1);
        DUE.is("fault(-1)", x.fault(-1), -1);
        Due.tell(x, "hold 500;");
        DUE.is("fault(0) of the latest", x.fault(0), 0);
        DUE.is("fault(1) of the latest", x.fault(1), -1);
    }

    private static void fullTape() {
        DUE.about("a TAPE of 900 bytes");
        fault(";".repeat(900), 1, 0);
        fault("hold 1;" + " ".repeat(893), 0, -1);
        fault("hold 1;" + " ".repeat(892) + ";", 1, 899);
        fault("hold " + "0".repeat(893) + "7;", 0, -1);
        fault("hold " + "9".repeat(895), 2, 5);
        fault("hold " + "0".repeat(894) + "9", 1, 900);
        NonsenseRows x = Due.told("thing easy 1;grow next by 1" + "plus1".repeat(174) + ";");
        DUE.is("a LAW of 175 PARTS", x.law(0, 0, 0, 0), 175);
    }
}
