import java.util.Random;

/** Runs of chance calls, the same on every machine: the class and the plain model answer alike. */
public final class ModelTest {
    private static final Due DUE = new Due();
    private static final String[] SORTS = {"next", "back", "off", "place"};
    private static final String[] PARTS = {"has", "left", "easy", "tired", "hour"};
    private static final int[] FAR = {-1, Integer.MIN_VALUE, Integer.MAX_VALUE, 1 << 30, 24, 12, 201, 1001, 61};

    private final Random chance;
    private final NonsenseRows x = new NonsenseRows();
    private final PlainModel m = new PlainModel();
    private int things;

    private ModelTest(long seed) {
        chance = new Random(seed);
    }

    public static void main(String[] args) {
        int runs = args.length > 0 ? Integer.parseInt(args[0]) : 250;
        long first = args.length > 1 ? Long.parseLong(args[1]) : 0;
        for (long seed = first; seed < first + runs; seed++) {
            DUE.about("run " + seed);
            new ModelTest(seed).run();
        }
        DUE.end("ModelTest");
    }

    private static void feedBoth(NonsenseRows x, PlainModel m, String text) {
        DUE.is("end(0)", x.end(0), m.end(0));
        for (int from = 0; from < text.length(); from += 20) {
            int[] w = Due.words(text, from);
            DUE.is("feed", x.feed(w[0], w[1], w[2], w[3], w[4]), m.feed(w[0], w[1], w[2], w[3], w[4]));
        }
        DUE.is("end(" + text.length() + ")", x.end(text.length()), m.end(text.length()));
    }

    private void run() {
        tellBoth(goodText());
        int calls = 60 + chance.nextInt(60);
        for (int i = 0; i < calls; i++) {
            int kind = chance.nextInt(100);
            if (kind < 2) {
                tellBoth(chance.nextBoolean() ? goodText() : spoilt(goodText()));
            } else if (kind < 12) {
                sittings();
            } else if (kind < 30) {
                slotCalls();
            } else if (kind < 45) {
                rowsAndImages();
            } else if (kind < 75) {
                looks();
            } else {
                asks();
            }
        }
    }

    private void tellBoth(String text) {
        feedBoth(x, m, text);
        DUE.is("text() of " + text, x.text(), m.text());
        DUE.is("fault(0) of " + text, x.fault(0), m.fault(0));
        DUE.is("fault(1) of " + text, x.fault(1), m.fault(1));
    }

    private String goodText() {
        things = 2 + chance.nextInt(chance.nextInt(4) == 0 ? 22 : 5);
        StringBuilder s = new StringBuilder();
        for (int i = 0; i < things; i++) {
            s.append("thing easy ").append(chance.nextInt(10)).append(';');
        }
        int rows = 1 + chance.nextInt(4);
        for (int r = 0; r < rows; r++) {
            row(s);
        }
        if (chance.nextInt(8) > 0) {
            s.append("hold ").append(chance.nextInt(chance.nextInt(5) == 0 ? 3000 : 500)).append(';');
        }
        for (String sort : SORTS) {
            if (chance.nextInt(4) > 0) {
                s.append("lean ").append(sort).append(' ').append(chance.nextInt(101)).append(";\n");
            }
            if (chance.nextInt(6) > 0) {
                s.append("grow ").append(sort).append(" by ").append(growth()).append(';');
            }
            if (chance.nextInt(3) > 0) {
                s.append("fall ").append(sort).append(" by ").append(decay()).append(';');
            }
        }
        if (chance.nextInt(3) > 0) {
            s.append("mix next by ").append(decay()).append(';');
        }
        return s.length() <= 900 ? s.toString() : s.substring(0, 900);
    }

    private void row(StringBuilder s) {
        int size = 2 + chance.nextInt(Math.min(things, 12) - 1);
        boolean[] has = new boolean[things];
        s.append("row");
        for (int i = 0; i < size; i++) {
            int thing = chance.nextInt(things);
            while (has[thing]) {
                thing = (thing + 1) % things;
            }
            has[thing] = true;
            s.append(' ').append(thing);
        }
        s.append(';');
    }

    private String growth() {
        return switch (chance.nextInt(6)) {
            case 0 -> "" + chance.nextInt(200);
            case 1 -> "left over " + (1 + chance.nextInt(12));
            case 2 -> "left over 8 plus easy times " + chance.nextInt(20);
            case 3 -> chance.nextInt(150) + " minus tired times " + chance.nextInt(20);
            case 4 -> "left over 5 minus hour times 2";
            default -> wild();
        };
    }

    private String decay() {
        return switch (chance.nextInt(6)) {
            case 0 -> "" + chance.nextInt(30);
            case 1 -> "has over " + (1 + chance.nextInt(40));
            case 2 -> "has over 30 plus 9 minus easy";
            case 3 -> "hour over 3 plus tired";
            case 4 -> "has times " + chance.nextInt(20) + " over 200";
            default -> wild();
        };
    }

    private String wild() {
        StringBuilder s = new StringBuilder(part());
        int more = chance.nextInt(5);
        for (int i = 0; i < more; i++) {
            String[] joints = {" plus ", " minus ", " times ", " over "};
            s.append(joints[chance.nextInt(4)]).append(part());
        }
        return s.toString();
    }

    private String part() {
        return chance.nextBoolean() ? PARTS[chance.nextInt(5)] : "" + chance.nextInt(chance.nextBoolean() ? 10 : 1001);
    }

    private String spoilt(String text) {
        StringBuilder s = new StringBuilder(text);
        int times = 1 + chance.nextInt(3);
        for (int i = 0; i < times && s.length() > 0; i++) {
            int at = chance.nextInt(s.length());
            switch (chance.nextInt(5)) {
                case 0 -> s.deleteCharAt(at);
                case 1 -> s.insert(at, (char) chance.nextInt(256));
                case 2 -> s.setCharAt(at, (char) ('0' + chance.nextInt(75)));
                case 3 -> s.setLength(at);
                default -> s.insert(at, s.substring(at, Math.min(s.length(), at + chance.nextInt(40))));
            }
        }
        return s.length() <= 900 ? s.toString() : s.substring(0, 900);
    }

    /** A number below most, now and then one that is none such. */
    private int some(int most) {
        if (chance.nextInt(25) == 0) {
            return FAR[chance.nextInt(FAR.length)];
        }
        return chance.nextInt(20) == 0 ? most : chance.nextInt(Math.max(1, most));
    }

    private int someRow() {
        return some(Math.max(1, m.count(1)));
    }

    private void sittings() {
        int r = someRow();
        int n = chance.nextInt(3) == 0 ? some(51) : 1 + chance.nextInt(4);
        int h = chance.nextInt(4) == 0 ? some(200) : chance.nextInt(30);
        switch (chance.nextInt(3)) {
            case 0 -> DUE.is("read(" + r + ", " + n + ")", x.read(r, n), m.read(r, n));
            case 1 -> DUE.is("learn(" + r + ")", x.learn(r), m.learn(r));
            default -> DUE.is("waits(" + h + ")", x.waits(h), m.waits(h));
        }
    }

    private void slotCalls() {
        int s = some(4);
        int i = some(14);
        switch (chance.nextInt(9)) {
            case 0, 1 -> {
                int w = some(4);
                int n = chance.nextInt(4) == 0 ? some(61) : chance.nextInt(13);
                DUE.is("row(" + s + ", " + w + ", " + n + ")", x.row(s, w, n), m.row(s, w, n));
            }
            case 2, 3, 4, 5 -> {
                long v = chance.nextInt(6) == 0 ? chance.nextLong() : chance.nextInt(4) == 0 ? some(260) : chance.nextInt(5);
                DUE.is("write(" + s + ", " + i + ", " + v + ")", x.write(s, i, v), m.write(s, i, v));
            }
            case 6 -> {
                int to = some(4);
                int k = some(8);
                int n = some(9);
                DUE.is("paste(" + s + ", " + i + ", " + to + ", " + k + ", " + n + ")", x.paste(s, i, to, k, n), m.paste(s, i, to, k, n));
            }
            case 7 -> DUE.is("days(" + s + ")", x.days(s), m.days(s));
            default -> DUE.is("rowOf(" + s + ")", x.rowOf(s), m.rowOf(s));
        }
    }

    private void rowsAndImages() {
        int k = some(3);
        int r = someRow();
        switch (chance.nextInt(12)) {
            case 0, 1 -> DUE.is("shuffled(" + r + ", " + k + ")", x.shuffled(r, k), m.shuffled(r, k));
            case 2 -> DUE.is("backward(" + r + ")", x.backward(r), m.backward(r));
            case 3, 4 -> DUE.is("keep(" + k + ")", x.keep(k), m.keep(k));
            case 5 -> DUE.is("back(" + k + ")", x.back(k), m.back(k));
            case 6, 7 -> DUE.is("parts(" + k + ")", x.parts(k), m.parts(k));
            case 8 -> {
                if (chance.nextInt(4) == 0) {
                    DUE.is("forget()", x.forget(), m.forget());
                }
            }
            default -> {
                int o = someRow();
                int off = chance.nextInt(5) == 0 ? some(12) : 1 + chance.nextInt(3);
                boolean turned = chance.nextBoolean();
                DUE.is("near(" + r + ", " + o + ", " + off + ", " + turned + ")", x.near(r, o, off, turned), m.near(r, o, off, turned));
            }
        }
    }

    private void looks() {
        int sort = some(4);
        int a = some(things);
        int b = some(chance.nextInt(4) == 0 ? 12 : things);
        int r = someRow();
        switch (chance.nextInt(10)) {
            case 0, 1 -> DUE.is("strength(" + sort + ", " + a + ", " + b + ")", x.strength(sort, a, b), m.strength(sort, a, b));
            case 2 -> DUE.is("links(" + sort + ")", x.links(sort), m.links(sort));
            case 3 -> DUE.is("support(" + r + ", " + a + ")", x.support(r, a), m.support(r, a));
            case 4 -> DUE.is("slips(" + r + ")", x.slips(r), m.slips(r));
            case 5 -> DUE.is("thing(" + r + ", " + a + ")", x.thing(r, a), m.thing(r, a));
            case 6 -> DUE.is("used(" + r + ")", x.used(r), m.used(r));
            case 7 -> {
                int i = some(m.count(6));
                DUE.is("sitting(" + i + ", " + a + ")", x.sitting(i, a), m.sitting(i, a));
                DUE.is("book(" + r + ", " + sort + ")", x.book(r, sort), m.book(r, sort));
            }
            case 8 -> {
                int what = some(3);
                int strength = some(1001);
                DUE.is("law(" + what + ", " + sort + ", " + strength + ", " + a + ")", x.law(what, sort, strength, a), m.law(what, sort, strength, a));
            }
            default -> {
                int what = some(13);
                DUE.is("count(" + what + ")", x.count(what), m.count(what));
            }
        }
    }

    private void asks() {
        int r = someRow();
        int o = someRow();
        int h = chance.nextInt(3) == 0 ? some(201) : chance.nextInt(20);
        int sort = some(4);
        switch (chance.nextInt(17)) {
            case 0 -> DUE.is("needs(" + r + ")", x.needs(r), m.needs(r));
            case 1 -> DUE.is("fresh(" + r + ")", x.fresh(r), m.fresh(r));
            case 2 -> DUE.is("saving(" + r + ")", x.saving(r), m.saving(r));
            case 3 -> DUE.is("after(" + r + ", " + h + ")", x.after(r, h), m.after(r, h));
            case 4 -> DUE.is("lasts(" + r + ")", x.lasts(r), m.lasts(r));
            case 5 -> DUE.is("gone(" + r + ")", x.gone(r), m.gone(r));
            case 6 -> DUE.is("without(" + r + ", " + sort + ")", x.without(r, sort), m.without(r, sort));
            case 7, 8 -> DUE.is("between(" + r + ", " + o + ", " + h + ")", x.between(r, o, h), m.between(r, o, h));
            case 9, 10 -> {
                int later = some(24);
                DUE.is("evening(" + r + ", " + later + ", " + h + ")", x.evening(r, later, h), m.evening(r, later, h));
            }
            case 11 -> DUE.is("when(" + r + ")", x.when(r), m.when(r));
            case 12 -> DUE.is("must(" + r + ")", x.must(r), m.must(r));
            case 13 -> DUE.is("verse(" + r + ", " + o + ")", x.verse(r, o), m.verse(r, o));
            case 14 -> fit(sort);
            default -> spread(r);
        }
    }

    private void fit(int sort) {
        int law = some(2);
        int low = chance.nextInt(4) == 0 ? some(1000) : chance.nextInt(100);
        int high = low + chance.nextInt(32);
        int what = some(3);
        DUE.is("fit(" + law + ", " + sort + ", " + low + ", " + high + ", " + what + ")", x.fit(law, sort, low, high, what),
            m.fit(law, sort, low, high, what));
    }

    private void spread(int r) {
        int n = chance.nextInt(4) == 0 ? some(9) : 1 + chance.nextInt(4);
        int days = chance.nextInt(4) == 0 ? some(5) : 1 + chance.nextInt(3);
        int what = some(3);
        if (chance.nextBoolean()) {
            DUE.is("spread(" + r + ", " + n + ", " + days + ")", x.spread(r, n, days), m.spread(r, n, days));
        } else {
            DUE.is("left(" + r + ", " + n + ", " + days + ", " + what + ")", x.left(r, n, days, what), m.left(r, n, days, what));
        }
    }
}
