import java.util.ArrayList;
import java.util.Arrays;
import java.util.HashMap;
import java.util.List;
import java.util.Map;
import java.util.TreeMap;

/** The document told once more, as plainly as the library allows: what the class is held against. */
final class PlainModel {
    static final int NOTHING = -2000000000;
    private static final List<String> SORTS = List.of("next", "back", "off", "place");
    private static final List<String> LAWS = List.of("grow", "fall", "mix");

    static final class Told implements Cloneable {
        List<Integer> easy = new ArrayList<>();
        List<List<Integer>> rows = new ArrayList<>();
        List<Integer> used = new ArrayList<>();
        Map<String, List<List<String>>> laws = new HashMap<>();
        int hold;
        int[] lean = new int[4];
        int lines;
        int rowsAtFirst;

        Told copy() {
            Told t = new Told();
            t.easy = new ArrayList<>(easy);
            t.rows = new ArrayList<>(rows);
            t.used = new ArrayList<>(used);
            t.laws = laws;
            t.hold = hold;
            t.lean = lean.clone();
            t.lines = lines;
            t.rowsAtFirst = rowsAtFirst;
            return t;
        }
    }

    static final class Brain {
        TreeMap<String, Integer> links = new TreeMap<>();
        int hour;
        int tired;

        Brain copy() {
            Brain b = new Brain();
            b.links.putAll(links);
            b.hour = hour;
            b.tired = tired;
            return b;
        }

        int get(String sort, int a, int b) {
            return links.getOrDefault(sort + " " + a + " " + b, 0);
        }
    }

    record Sitting(int row, int readings, int hour, int ahead, int behind, boolean learnt, int answer) { }

    record Image(Told told, Brain brain, List<Sitting> book, boolean lost) { }

    record Numbers(int width, long[] all) { }

    private StringBuilder tape = new StringBuilder();
    private int fault;
    private int place = -1;
    private Told told = new Told();
    private Brain brain = new Brain();
    private List<Sitting> book = new ArrayList<>();
    private boolean lost;
    private final Image[] images = new Image[3];
    private final Numbers[] slots = new Numbers[4];

    // ---- the laws

    private static long part(String word, int has, int easy, int tired, int hour) {
        return switch (word) {
            case "has" -> has;
            case "left" -> 1000 - has;
            case "easy" -> easy;
            case "tired" -> tired;
            case "hour" -> hour % 24;
            default -> Long.parseLong(word);
        };
    }

    private static long checked(long n) {
        if (Math.abs(n) > 1000000000L) {
            throw new IllegalStateException();
        }
        return n;
    }

    /** A LAW is kept as TERMS, each with its sign first: + has times 3 over 4. */
    static long sum(List<List<String>> terms, int has, int easy, int tired, int hour) {
        if (terms == null) {
            return 0;
        }
        try {
            long sum = 0;
            for (List<String> term : terms) {
                long value = part(term.get(1), has, easy, tired, hour);
                for (int i = 2; i < term.size(); i += 2) {
                    long by = part(term.get(i + 1), has, easy, tired, hour);
                    if (term.get(i).equals("times")) {
                        value = checked(value * by);
                    } else if (by == 0) {
                        return 0;
                    } else {
                        value = checked(value / by);
                    }
                }
                sum = checked(term.get(0).equals("plus") ? sum + value : sum - value);
            }
            return sum;
        } catch (IllegalStateException tooFar) {
            return 0;
        }
    }

    private static void change(Told t, Brain b, String law, String sort, int from, int to, int sign) {
        String key = sort + " " + from + " " + to;
        int has = b.links.getOrDefault(key, 0);
        int easy = t.easy.get(sort.equals("place") ? from : to);
        long now = has + sign * sum(t.laws.get(law + " " + sort), has, easy, b.tired, b.hour);
        now = Math.min(1000, Math.max(0, now));
        if (now == 0) {
            b.links.remove(key);
        } else {
            b.links.put(key, (int) now);
        }
    }

    private static void reading(Told t, Brain h, List<Integer> row) {
        for (int i = 0; i < row.size(); i++) {
            int b = row.get(i);
            change(t, h, "grow", "place", b, i, 1);
            if (i > 0) {
                int a = row.get(i - 1);
                change(t, h, "grow", "next", a, b, 1);
                change(t, h, "grow", "back", b, a, 1);
                if (i > 1) {
                    change(t, h, "grow", "off", row.get(i - 2), b, 1);
                }
                for (int c = 0; c < t.easy.size(); c++) {
                    if (c != b && h.get("next", a, c) > 0) {
                        change(t, h, "mix", "next", a, c, -1);
                    }
                }
            }
        }
        h.tired++;
    }

    private static Brain hours(Told t, Brain h, int n) {
        for (int k = 0; k < n; k++) {
            for (String key : new ArrayList<>(h.links.keySet())) {
                String[] k3 = key.split(" ");
                change(t, h, "fall", k3[0], Integer.parseInt(k3[1]), Integer.parseInt(k3[2]), -1);
            }
            h.hour++;
            h.tired = 0;
        }
        return h;
    }

    private static int supports(Told t, Brain h, List<Integer> row, int i) {
        int b = row.get(i);
        int s = t.lean[3] * h.get("place", b, i);
        if (i > 0) {
            for (int sort = 0; sort < 3; sort++) {
                s += t.lean[sort] * h.get(SORTS.get(sort), row.get(i - 1), b);
            }
        }
        return s / 100;
    }

    private static int slipsOf(Told t, Brain h, List<Integer> row) {
        int bits = 0;
        for (int i = 0; i < row.size(); i++) {
            if (supports(t, h, row, i) < t.hold) {
                bits += 1 << i;
            }
        }
        return bits;
    }

    private static int learning(Told t, Brain h, List<Integer> row) {
        boolean before = false;
        for (int n = 1; n <= 40; n++) {
            reading(t, h, row);
            boolean now = slipsOf(t, h, row) == 0;
            if (now && before) {
                return n;
            }
            before = now;
        }
        return -1;
    }

    private int need(Brain from, int row) {
        return learning(told, from.copy(), told.rows.get(row));
    }

    private int freshAt(int hour, int row) {
        Brain b = new Brain();
        b.hour = hour;
        return learning(told, b, told.rows.get(row));
    }

    private static int or41(int n) {
        return n == -1 ? 41 : n;
    }

    private boolean no(int row) {
        return row < 0 || row >= told.rows.size();
    }

    // ---- the tape and the text

    int feed(int a, int b, int c, int d, int e) {
        if (tape.length() > 880) {
            return -1;
        }
        for (int word : new int[] {a, b, c, d, e}) {
            for (int i = 3; i >= 0; i--) {
                tape.append((char) (word >>> 8 * i & 255));
            }
        }
        return tape.length();
    }

    int end(int n) {
        if (n < 0 || n > tape.length()) {
            return -1;
        }
        tape.setLength(n);
        return n;
    }

    private static final class Fault extends RuntimeException {
        private static final long serialVersionUID = 1;
        final int kind;
        final int at;

        Fault(int kind, int at) {
            this.kind = kind;
            this.at = at;
        }
    }

    private final List<String> tokens = new ArrayList<>();
    private final List<Integer> places = new ArrayList<>();
    private int next;

    private void cutTokens(String s) {
        tokens.clear();
        places.clear();
        next = 0;
        int i = 0;
        while (i < s.length()) {
            String rest = s.substring(i);
            String word = rest.replaceFirst("(?s)^([a-z]+).*", "$1");
            String digits = rest.replaceFirst("(?s)^([0-9]+).*", "$1");
            char c = s.charAt(i);
            if (c == 32 || c == 10) {
                i++;
                continue;
            }
            String token = c >= 'a' && c <= 'z' ? word : c >= '0' && c <= '9' ? digits : c == ';' ? ";" : "?";
            tokens.add(token);
            places.add(i);
            i += token.length();
        }
        tokens.add("");
        places.add(s.length());
    }

    private String take() {
        return tokens.get(next++);
    }

    private Fault at(int kind) {
        return new Fault(kind, places.get(next - 1));
    }

    private void need(String word) {
        if (!take().equals(word)) {
            throw at(1);
        }
    }

    private static boolean isNumber(String s) {
        return s.matches("[0-9]+");
    }

    private int number(int most) {
        String s = take();
        if (!isNumber(s)) {
            throw at(1);
        }
        if (new java.math.BigInteger(s).compareTo(java.math.BigInteger.valueOf(most)) > 0) {
            throw at(2);
        }
        return Integer.parseInt(s);
    }

    private Told parse() {
        Told t = new Told();
        boolean held = false;
        boolean[] leant = new boolean[4];
        while (!tokens.get(next).isEmpty()) {
            String first = take();
            switch (first) {
                case "thing" -> {
                    if (t.easy.size() == 24) {
                        throw at(3);
                    }
                    need("easy");
                    t.easy.add(number(9));
                }
                case "row" -> parseRow(t);
                case "hold" -> {
                    if (held) {
                        throw at(2);
                    }
                    held = true;
                    t.hold = number(5000);
                }
                case "lean" -> {
                    int sort = SORTS.indexOf(take());
                    if (sort < 0) {
                        throw at(1);
                    }
                    if (leant[sort]) {
                        throw at(2);
                    }
                    leant[sort] = true;
                    t.lean[sort] = number(100);
                }
                case "grow", "fall", "mix" -> parseLaw(t, first);
                default -> throw at(1);
            }
            need(";");
            t.lines++;
        }
        t.rowsAtFirst = t.rows.size();
        return t;
    }

    private void parseRow(Told t) {
        if (t.rows.size() == 12) {
            throw at(3);
        }
        List<Integer> row = new ArrayList<>();
        while (row.size() < 2 || isNumber(tokens.get(next))) {
            int n = number(t.easy.size() - 1);
            if (row.contains(n)) {
                throw at(2);
            }
            if (row.size() == 12) {
                throw at(3);
            }
            row.add(n);
        }
        t.rows.add(row);
        t.used.add(0);
    }

    private void parseLaw(Told t, String law) {
        String sort = take();
        if (!SORTS.contains(sort) || law.equals("mix") && !sort.equals("next")) {
            throw at(1);
        }
        String key = law + " " + sort;
        if (t.laws.containsKey(key)) {
            throw at(2);
        }
        need("by");
        List<List<String>> terms = new ArrayList<>();
        String joint = "plus";
        while (true) {
            String part = tokens.get(next);
            if (List.of("has", "left", "easy", "tired", "hour").contains(part)) {
                take();
            } else {
                part = "" + number(1000);
            }
            if (joint.equals("plus") || joint.equals("minus")) {
                terms.add(new ArrayList<>(List.of(joint, part)));
            } else {
                terms.get(terms.size() - 1).addAll(List.of(joint, part));
            }
            if (!List.of("plus", "minus", "times", "over").contains(tokens.get(next))) {
                break;
            }
            joint = take();
        }
        t.laws.put(key, terms);
    }

    int text() {
        cutTokens(tape.toString());
        tape = new StringBuilder();
        try {
            told = parse();
            brain = new Brain();
            book = new ArrayList<>();
            lost = false;
            fault = 0;
            place = -1;
            return told.rows.size();
        } catch (Fault f) {
            fault = f.kind;
            place = f.at;
            return -4;
        }
    }

    int fault(int what) {
        return what == 0 ? fault : what == 1 ? place : -1;
    }

    // ---- sittings

    private int sit(int row, int n) {
        List<Integer> r = told.rows.get(row);
        int ahead = Integer.bitCount(slipsOf(told, brain, r));
        int answer = n;
        if (n == 0) {
            answer = learning(told, brain, r);
        } else {
            for (int i = 0; i < n; i++) {
                reading(told, brain, r);
            }
        }
        int readings = answer == -1 ? 40 : answer;
        told.used.set(row, told.used.get(row) + readings);
        book.add(new Sitting(row, readings, brain.hour, ahead, Integer.bitCount(slipsOf(told, brain, r)), n == 0, answer));
        if (book.size() > 60) {
            book.remove(0);
            lost = true;
        }
        return answer;
    }

    int read(int row, int n) {
        if (no(row) || n < 1 || n > 50) {
            return -2;
        }
        sit(row, n);
        return book.size();
    }

    int learn(int row) {
        return no(row) ? -2 : sit(row, 0);
    }

    int waits(int h) {
        if (h < 0 || h > 200) {
            return -2;
        }
        return hours(told, brain, h).hour;
    }

    // ---- what is there

    int strength(int sort, int a, int b) {
        if (sort < 0 || sort > 3 || a < 0 || a >= told.easy.size() || b < 0 || b >= (sort == 3 ? 12 : told.easy.size())) {
            return -2;
        }
        return brain.get(SORTS.get(sort), a, b);
    }

    int links(int sort) {
        if (sort < 0 || sort > 3) {
            return -2;
        }
        return (int) brain.links.keySet().stream().filter(k -> k.startsWith(SORTS.get(sort))).count();
    }

    int support(int row, int i) {
        return no(row) || i < 0 || i >= told.rows.get(row).size() ? -2 : supports(told, brain, told.rows.get(row), i);
    }

    int slips(int row) {
        return no(row) ? -2 : slipsOf(told, brain, told.rows.get(row));
    }

    // ---- what is asked with "if"

    int needs(int row) {
        return no(row) ? -2 : need(brain, row);
    }

    int fresh(int row) {
        return no(row) ? -2 : freshAt(brain.hour, row);
    }

    int saving(int row) {
        if (no(row) || needs(row) == -1 || fresh(row) == -1) {
            return NOTHING;
        }
        return (fresh(row) - needs(row)) * 1000 / fresh(row);
    }

    int after(int row, int h) {
        return no(row) || h < 0 || h > 200 ? -2 : need(hours(told, brain.copy(), h), row);
    }

    int lasts(int row) {
        if (no(row)) {
            return -2;
        }
        Brain b = brain.copy();
        for (int h = 0; h <= 200; h++) {
            if (slipsOf(told, b, told.rows.get(row)) != 0) {
                return h;
            }
            hours(told, b, 1);
        }
        return -1;
    }

    int gone(int row) {
        if (no(row)) {
            return -2;
        }
        Brain b = brain.copy();
        for (int h = 0; h <= 60; h++) {
            if (or41(need(b, row)) >= or41(freshAt(brain.hour + h, row))) {
                return h;
            }
            hours(told, b, 1);
        }
        return -1;
    }

    int without(int row, int sort) {
        if (no(row) || sort < 0 || sort > 3) {
            return -2;
        }
        int lean = told.lean[sort];
        told.lean[sort] = 0;
        int n = need(brain, row);
        told.lean[sort] = lean;
        return n;
    }

    int between(int row, int other, int h) {
        if (no(row) || no(other) || row == other || h < 1 || h > 200) {
            return NOTHING;
        }
        Brain b = brain.copy();
        if (learning(told, b, told.rows.get(other)) == -1) {
            return NOTHING;
        }
        int with = need(hours(told, b, h), row);
        int plain = need(hours(told, brain.copy(), h), row);
        return with == -1 || plain == -1 ? NOTHING : with - plain;
    }

    int evening(int row, int later, int h) {
        if (no(row) || later < 0 || later > 23 || h < 0 || h > 200) {
            return NOTHING;
        }
        Brain soon = brain.copy();
        Brain late = hours(told, brain.copy(), later);
        if (learning(told, soon, told.rows.get(row)) == -1 || learning(told, late, told.rows.get(row)) == -1) {
            return NOTHING;
        }
        int a = need(hours(told, soon, later + h), row);
        int b = need(hours(told, late, h), row);
        return a == -1 || b == -1 ? NOTHING : a - b;
    }

    int when(int row) {
        if (no(row)) {
            return -2;
        }
        int best = -1;
        for (int h = 0; h < 24; h++) {
            if (after(row, h) != -1 && (best == -1 || after(row, h) < after(row, best))) {
                best = h;
            }
        }
        return best;
    }

    int must(int row) {
        if (no(row)) {
            return -2;
        }
        int best = 0;
        for (int sort = 1; sort < 4; sort++) {
            if (or41(without(row, sort)) > or41(without(row, best))) {
                best = sort;
            }
        }
        return best;
    }

    int verse(int row, int other) {
        if (no(row) || no(other) || fresh(row) == -1 || fresh(other) == -1) {
            return NOTHING;
        }
        return fresh(row) * 1000 / fresh(other);
    }

    int near(int row, int other, int off, boolean turned) {
        if (no(row) || no(other) || off < 1 || off > 11) {
            return -2;
        }
        List<Integer> r = told.rows.get(row);
        List<Integer> o = told.rows.get(other);
        int n = 0;
        for (int p = 0; p + 1 < r.size(); p++) {
            for (int q = 0; q + off < o.size(); q++) {
                int x = o.get(turned ? q + off : q);
                int y = o.get(turned ? q : q + off);
                n += r.get(p) == x && r.get(p + 1) == y ? 1 : 0;
            }
        }
        return n;
    }

    int fit(int law, int sort, int low, int high, int what) {
        if (law < 0 || law > 1 || sort < 0 || sort > 3 || low < 0 || high < low || high > 1000 || high - low > 30
            || what < 0 || what > 2) {
            return -2;
        }
        if (brain.hour > 400 || lost || told.rows.size() != told.rowsAtFirst) {
            return -5;
        }
        List<Integer> good = new ArrayList<>();
        for (int n = low; n <= high; n++) {
            Told t = told.copy();
            t.laws = new HashMap<>(told.laws);
            t.laws.put(LAWS.get(law) + " " + SORTS.get(sort), List.of(List.of("plus", "" + n)));
            if (replays(t)) {
                good.add(n);
            }
        }
        if (what == 0) {
            return good.size();
        }
        return good.isEmpty() ? -1 : good.get(what == 1 ? 0 : good.size() - 1);
    }

    private boolean replays(Told t) {
        Brain b = new Brain();
        for (Sitting s : book) {
            hours(t, b, s.hour - b.hour);
            if (s.learnt) {
                if (learning(t, b, t.rows.get(s.row)) != s.answer) {
                    return false;
                }
            } else {
                for (int i = 0; i < s.readings; i++) {
                    reading(t, b, t.rows.get(s.row));
                }
            }
        }
        return true;
    }

    int days(int slot) {
        if (slot < 0 || slot > 3) {
            return -2;
        }
        if (slots[slot] == null) {
            return -6;
        }
        long[] all = slots[slot].all;
        int n = 0;
        for (int i = 0; i + 3 <= all.length; i += 3) {
            if (all[i] >= 0 && all[i] <= 200 && all[i + 1] >= 0 && all[i + 1] < told.rows.size() && all[i + 2] >= 0 && all[i + 2] <= 50) {
                waits((int) all[i]);
                sit((int) all[i + 1], (int) all[i + 2]);
                n++;
            }
        }
        return n;
    }

    /** What each plan leaves, plans with more on the first days first. */
    private Map<Integer, Integer> plans(int row, int n, int days) {
        Map<Integer, Integer> left = new TreeMap<>(java.util.Comparator.reverseOrder());
        int all = (int) Math.pow(10, days);
        for (int plan = 0; plan < all; plan++) {
            String digits = String.format("%0" + days + "d", plan);
            if (digits.chars().map(c -> c - '0').sum() == n) {
                left.put(plan, leaves(row, digits));
            }
        }
        return left;
    }

    private int leaves(int row, String digits) {
        Brain b = brain.copy();
        List<Integer> r = told.rows.get(row);
        for (char c : digits.toCharArray()) {
            for (int i = 0; i < c - '0'; i++) {
                reading(told, b, r);
            }
            hours(told, b, 24);
        }
        int s = 0;
        for (int i = 0; i < r.size(); i++) {
            s += supports(told, b, r, i);
        }
        return s;
    }

    int spread(int row, int n, int days) {
        if (no(row) || n < 1 || n > 8 || days < 1 || days > 4) {
            return -1;
        }
        Map<Integer, Integer> left = plans(row, n, days);
        int most = left.values().stream().max(Integer::compare).get();
        return left.keySet().stream().filter(p -> left.get(p) == most).findFirst().get();
    }

    int left(int row, int n, int days, int what) {
        if (no(row) || n < 1 || n > 8 || days < 1 || days > 4 || what < 0 || what > 2) {
            return -1;
        }
        if (what == 0) {
            return plans(row, n, days).values().stream().max(Integer::compare).get();
        }
        String zeros = "0".repeat(days - 1);
        return leaves(row, what == 1 ? n + zeros : zeros + n);
    }

    // ---- rows

    private int put(List<Integer> row) {
        if (told.rows.size() == 12) {
            return -3;
        }
        told.rows.add(row);
        told.used.add(0);
        return told.rows.size() - 1;
    }

    int shuffled(int row, int k) {
        if (no(row) || k < 1 || k > 3) {
            return -2;
        }
        List<Integer> r = told.rows.get(row);
        List<Integer> made = new ArrayList<>();
        for (int rest = 0; rest <= k; rest++) {
            for (int i = 0; i < r.size(); i++) {
                if (i % (k + 1) == rest) {
                    made.add(r.get(i));
                }
            }
        }
        return put(made);
    }

    int backward(int row) {
        if (no(row)) {
            return -2;
        }
        List<Integer> made = new ArrayList<>(told.rows.get(row));
        java.util.Collections.reverse(made);
        return put(made);
    }

    int rowOf(int slot) {
        if (slot < 0 || slot > 3) {
            return -2;
        }
        if (slots[slot] == null) {
            return -6;
        }
        List<Integer> made = new ArrayList<>();
        for (long n : slots[slot].all) {
            if (n < 0 || n >= told.easy.size() || made.contains((int) n)) {
                return -2;
            }
            made.add((int) n);
        }
        return made.size() < 2 || made.size() > 12 ? -2 : put(made);
    }

    int thing(int row, int i) {
        return no(row) ? -2 : i < 0 || i >= told.rows.get(row).size() ? -1 : told.rows.get(row).get(i);
    }

    int used(int row) {
        return no(row) ? -2 : told.used.get(row);
    }

    int sitting(int i, int what) {
        if (i < 0 || i >= book.size()) {
            return -1;
        }
        Sitting s = book.get(i);
        return switch (what) {
            case 0 -> s.row;
            case 1 -> s.readings;
            case 2 -> s.hour;
            case 3 -> s.ahead;
            case 4 -> s.behind;
            default -> -1;
        };
    }

    int book(int row, int what) {
        List<Sitting> its = book.stream().filter(s -> s.row == row).toList();
        if (its.size() < 2) {
            return -1;
        }
        Sitting first = its.get(0);
        Sitting last = its.get(its.size() - 1);
        return switch (what) {
            case 0 -> its.size();
            case 1 -> first.readings;
            case 2 -> last.readings;
            case 3 -> last.hour - first.hour;
            default -> -1;
        };
    }

    int parts(int k) {
        if (k < 0 || k > 2) {
            return -2;
        }
        if (images[k] == null) {
            return -6;
        }
        int best = -1;
        int most = -1;
        Told other = images[k].told;
        for (int r = 0; r < told.rows.size() && r < other.rows.size(); r++) {
            if (told.rows.get(r).size() == other.rows.get(r).size()) {
                int there = learning(other, images[k].brain.copy(), other.rows.get(r));
                int unlike = Math.abs(or41(needs(r)) - or41(there));
                if (unlike > most) {
                    most = unlike;
                    best = r;
                }
            }
        }
        return best;
    }

    int forget() {
        int n = brain.links.size();
        brain = new Brain();
        book = new ArrayList<>();
        lost = false;
        return n;
    }

    long law(int what, int sort, int strength, int thing) {
        if (what < 0 || what > 2 || sort < 0 || sort > 3 || strength < 0 || strength > 1000
            || thing < 0 || thing >= told.easy.size()) {
            return NOTHING;
        }
        return sum(told.laws.get(LAWS.get(what) + " " + SORTS.get(sort)), strength, told.easy.get(thing), brain.tired, brain.hour);
    }

    int count(int what) {
        return switch (what) {
            case 0 -> told.easy.size();
            case 1 -> told.rows.size();
            case 2 -> told.lines;
            case 3 -> tape.length();
            case 4 -> brain.hour;
            case 5 -> brain.tired;
            case 6 -> book.size();
            case 7 -> told.hold;
            case 8, 9, 10, 11 -> told.lean[what - 8];
            case 12 -> (int) Arrays.stream(slots).filter(s -> s != null).count();
            default -> -1;
        };
    }

    int keep(int k) {
        if (k < 0 || k > 2) {
            return -2;
        }
        images[k] = new Image(told.copy(), brain.copy(), new ArrayList<>(book), lost);
        return 0;
    }

    int back(int k) {
        if (k < 0 || k > 2) {
            return -2;
        }
        if (images[k] == null) {
            return -6;
        }
        told = images[k].told.copy();
        brain = images[k].brain.copy();
        book = new ArrayList<>(images[k].book);
        lost = images[k].lost;
        return 0;
    }

    // ---- slots

    int row(int slot, int width, int n) {
        if (slot < 0 || slot > 3 || width < 0 || width > 3 || n > 60) {
            return -2;
        }
        if (n < 0) {
            return -3;
        }
        slots[slot] = new Numbers(width, new long[n]);
        return 0;
    }

    int write(int slot, int i, long v) {
        if (slot < 0 || slot > 3) {
            return -2;
        }
        if (slots[slot] == null) {
            return -6;
        }
        if (i < 0 || i >= slots[slot].all.length) {
            return -7;
        }
        int bits = 64 - (8 << slots[slot].width);
        slots[slot].all[i] = v << bits >> bits;
        return 0;
    }

    int paste(int slot, int i, int to, int k, int n) {
        if (slot < 0 || slot > 3 || to < 0 || to > 3) {
            return -2;
        }
        if (slots[slot] == null || slots[to] == null) {
            return -6;
        }
        if (slots[slot].width != slots[to].width) {
            return -8;
        }
        long[] from = slots[slot].all.clone();
        long[] into = slots[to].all;
        if (i < 0 || k < 0 || n < 0 || i > from.length - n || k > into.length - n) {
            return -7;
        }
        for (int j = 0; j < n; j++) {
            into[k + j] = from[i + j];
        }
        return 0;
    }
}
