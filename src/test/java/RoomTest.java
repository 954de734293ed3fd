import java.lang.management.ManagementFactory;

/** What objects and calls take of the one room: few bytes for an object, none for its calls. */
public final class RoomTest {
    private static final Due DUE = new Due();
    private static final String TEXT = "thing easy 1;thing easy 2;thing easy 3;thing easy 4;row 0 1 2 3;row 2 0 1;hold 200;lean next 50;"
        + "lean place 50;grow next by left over 8;grow place by left over 9;grow back by 9;grow off by 8;fall next by has over 20;mix next by 4;";

    public static void main(String[] args) {
        DUE.about("the room");
        everyCall(Due.told(TEXT));
        new NonsenseRows();
        long before = allocated();
        NonsenseRows fresh = new NonsenseRows();
        long made = allocated() - before;
        DUE.is("a new object of " + made + " bytes is small: " + (made < 25000), made < 25000 ? 1 : 0, 1);
        Due.tell(fresh, TEXT);
        everyCall(fresh);
        int[] words = Due.words(TEXT, 0);
        before = allocated();
        for (int i = 0; i < 12; i++) {
            fresh.feed(words[0], words[1], words[2], words[3], words[4]);
            fresh.text();
            everyCall(fresh);
        }
        made = allocated() - before;
        DUE.is("calls once more take " + made + " bytes: few: " + (made < 5000), made < 5000 ? 1 : 0, 1);
        DUE.end("RoomTest");
    }

    private static long allocated() {
        return ((com.sun.management.ThreadMXBean) ManagementFactory.getThreadMXBean()).getCurrentThreadAllocatedBytes();
    }

    private static void everyCall(NonsenseRows x) {
        for (int k = 0; k < 3; k++) {
            x.keep(k);
            x.row(k, k, 60);
            x.write(k, 1, 1);
        }
        x.row(3, 0, 2);
        x.write(3, 0, 1);
        x.rowOf(3);
        x.paste(3, 0, 0, 0, 1);
        x.read(0, 3);
        x.learn(1);
        x.waits(9);
        x.days(2);
        x.spread(0, 3, 4);
        x.left(0, 3, 4, 0);
        x.left(1, 3, 2, 2);
        x.saving(0);
        x.after(0, 3);
        x.lasts(0);
        x.gone(0);
        x.without(0, 0);
        x.between(0, 1, 4);
        x.evening(0, 3, 3);
        x.when(0);
        x.must(0);
        x.verse(0, 1);
        x.near(0, 1, 1, true);
        x.parts(0);
        x.shuffled(0, 1);
        x.backward(0);
        x.back(0);
        x.fit(0, 0, 0, 30, 0);
        x.forget();
    }
}
