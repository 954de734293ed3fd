import java.nio.charset.StandardCharsets;
import java.util.function.LongSupplier;

/** What the project's tests share: a text fed to an object, and answers held against those due. */
final class Due {
    private int wrong;
    private String about = "";

    void about(String promise) {
        about = promise;
    }

    void is(String call, long got, long want) {
        if (got != want) {
            wrong++;
            System.out.println(about + ": " + call + " answered " + got + ", due is " + want);
        }
    }

    /** A call that is refused: nothing happens. */
    void refused(NonsenseRows x, String call, LongSupplier ask, long want) {
        onPaper(x, call, ask, want);
    }

    /** The answer that is due, and all that can be looked at is as it was. */
    void onPaper(NonsenseRows x, String call, LongSupplier ask, long want) {
        String before = Look.at(x);
        is(call, ask.getAsLong(), want);
        String behind = Look.at(x);
        if (!behind.equals(before)) {
            wrong++;
            System.out.println(about + ": " + call + " made of\n" + before + "this:\n" + behind);
        }
    }

    /** A SLOT has a row of these numbers. */
    void put(NonsenseRows x, int slot, int width, long... numbers) {
        is("row", x.row(slot, width, numbers.length), 0);
        for (int i = 0; i < numbers.length; i++) {
            is("write", x.write(slot, i, numbers[i]), 0);
        }
    }

    /** Ends the test: exit code 1 if an answer was not the one due. */
    void end(String test) {
        System.out.println(test + ": " + (wrong == 0 ? "all answers are as due" : wrong + " answers are not as due"));
        if (wrong != 0) {
            System.exit(1);
        }
    }

    static int[] words(String text, int from) {
        byte[] bytes = text.getBytes(StandardCharsets.ISO_8859_1);
        int[] words = new int[5];
        for (int i = 0; i < 20; i++) {
            int sign = from + i < bytes.length ? bytes[from + i] & 255 : 0;
            words[i / 4] = words[i / 4] << 8 | sign;
        }
        return words;
    }

    static void feed(NonsenseRows x, String text) {
        x.end(0);
        for (int from = 0; from < text.length(); from += 20) {
            int[] w = words(text, from);
            x.feed(w[0], w[1], w[2], w[3], w[4]);
        }
        x.end(text.length());
    }

    static int tell(NonsenseRows x, String text) {
        feed(x, text);
        return x.text();
    }

    static NonsenseRows told(String text) {
        NonsenseRows x = new NonsenseRows();
        if (tell(x, text) < 0) {
            throw new IllegalStateException("fault " + x.fault(0) + " at " + x.fault(1) + " in " + text);
        }
        return x;
    }
}
