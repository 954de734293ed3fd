import java.lang.reflect.InvocationTargetException;
import java.lang.reflect.Method;
import java.lang.reflect.Modifier;
import java.util.ArrayList;
import java.util.Arrays;
import java.util.Comparator;
import java.util.List;
import java.util.Random;

/** Every call with numbers at the edges of the document and of the machine, in any state: none throws, and the plain model answers alike. */
public final class ExtremesTest {
    private static final Due DUE = new Due();
    private static final int[] EDGES = {Integer.MIN_VALUE, Integer.MIN_VALUE + 1, -60, -2, -1, 0, 0, 0, 1, 1, 1, 2, 2, 3, 4, 5, 8, 9, 11, 12, 13,
        23, 24, 30, 31, 40, 50, 51, 59, 60, 61, 200, 201, 900, 1000, 1001, Integer.MAX_VALUE - 1, Integer.MAX_VALUE};
    private static final String[] TEXTS = {
        "",
        "thing easy 3;thing easy 1;thing easy 2;row 0 1 2;row 2 1;hold 60;lean next 40;lean back 20;lean off 30;lean place 50;"
            + "grow next by left over 9;grow back by 20;grow off by 9;grow place by left over 7 minus tired;fall next by has over 30 plus 1;"
            + "fall place by hour over 9;mix next by 4;",
        "thing easy 1;".repeat(24) + "row 23 0;row 0 1 2 3 4 5 6 7 8 9 10 11;hold 9;lean place 100;grow place by 1 plus easy;",
        "thing easy 9;thing easy 0;" + "row 0 1;".repeat(12) + "hold 5000;lean place 100;grow place by 1000 times 1000 times 1000 times 1000;",
    };

    private final Random chance;
    private final NonsenseRows x = new NonsenseRows();
    private final PlainModel m = new PlainModel();
    private final List<String> calls = new ArrayList<>();

    private ExtremesTest(long seed) {
        chance = new Random(seed);
    }

    public static void main(String[] args) throws ReflectiveOperationException {
        int runs = args.length > 0 ? Integer.parseInt(args[0]) : 60;
        Method[] face = Arrays.stream(NonsenseRows.class.getDeclaredMethods()).filter(f -> Modifier.isPublic(f.getModifiers()))
            .sorted(Comparator.comparing(Method::getName)).toArray(Method[]::new);
        DUE.about("the face");
        DUE.is("public methods", face.length, 44);
        for (int seed = 0; seed < runs; seed++) {
            DUE.about("run " + seed);
            new ExtremesTest(seed).run(face);
        }
        DUE.end("ExtremesTest");
    }

    private void run(Method[] face) throws ReflectiveOperationException {
        tell(TEXTS[chance.nextInt(TEXTS.length)]);
        for (int i = 0; i < 400; i++) {
            Method called = face[chance.nextInt(face.length)];
            // a TEXT that is lost ends what there is to see
            if (called.getName().equals("text") || called.getName().equals("feed")) {
                if (chance.nextInt(4) == 0) {
                    tell(TEXTS[chance.nextInt(TEXTS.length)]);
                }
                continue;
            }
            call(called);
        }
    }

    private void tell(String text) {
        x.end(0);
        m.end(0);
        for (int from = 0; from < text.length(); from += 20) {
            int[] w = Due.words(text, from);
            DUE.is("feed", x.feed(w[0], w[1], w[2], w[3], w[4]), m.feed(w[0], w[1], w[2], w[3], w[4]));
        }
        DUE.is("end", x.end(text.length()), m.end(text.length()));
        DUE.is("text", x.text(), m.text());
        calls.add("text");
    }

    private void call(Method called) throws ReflectiveOperationException {
        Class<?>[] kinds = called.getParameterTypes();
        Object[] given = new Object[kinds.length];
        for (int i = 0; i < kinds.length; i++) {
            given[i] = kinds[i] == boolean.class ? chance.nextBoolean() : kinds[i] == long.class ? (Object) aLong() : (Object) anInt();
        }
        String name = called.getName() + Arrays.toString(given);
        calls.add(name);
        try {
            long got = ((Number) called.invoke(x, given)).longValue();
            Method due = PlainModel.class.getDeclaredMethod(called.getName(), kinds);
            DUE.is(name, got, ((Number) due.invoke(m, given)).longValue());
        } catch (InvocationTargetException thrown) {
            throw new IllegalStateException(name + " threw behind " + calls, thrown.getCause());
        }
    }

    private int anInt() {
        return chance.nextInt(3) == 0 ? EDGES[chance.nextInt(EDGES.length)] : chance.nextInt(4);
    }

    private long aLong() {
        return chance.nextInt(4) == 0 ? chance.nextLong() : chance.nextInt(4) == 0 ? (1L << 8 * (1 + chance.nextInt(7))) + anInt() : anInt();
    }
}
