/** All that can be looked at in an object without a change to it, as a text. */
final class Look {
    private Look() {
    }

    static String at(NonsenseRows x) {
        StringBuilder s = new StringBuilder("counts");
        for (int what = 0; what <= 12; what++) {
            s.append(' ').append(x.count(what));
        }
        s.append(", fault ").append(x.fault(0)).append(' ').append(x.fault(1)).append('\n');
        rows(x, s);
        sittings(x, s);
        links(x, s);
        laws(x, s);
        return s.toString();
    }

    private static void rows(NonsenseRows x, StringBuilder s) {
        for (int row = 0; row < x.count(1); row++) {
            s.append("row ").append(row).append(" used ").append(x.used(row)).append(':');
            for (int i = 0; x.thing(row, i) >= 0; i++) {
                s.append(' ').append(x.thing(row, i));
            }
            s.append('\n');
        }
    }

    private static void sittings(NonsenseRows x, StringBuilder s) {
        for (int i = 0; i < x.count(6); i++) {
            s.append("sitting");
            for (int what = 0; what < 5; what++) {
                s.append(' ').append(x.sitting(i, what));
            }
            s.append('\n');
        }
    }

    private static void links(NonsenseRows x, StringBuilder s) {
        for (int sort = 0; sort < 4; sort++) {
            s.append("links of ").append(sort).append(": ").append(x.links(sort));
            int ends = sort == 3 ? 12 : x.count(0);
            for (int cell = 0; cell < ends * x.count(0); cell++) {
                int strength = x.strength(sort, cell / ends, cell % ends);
                if (strength != 0) {
                    s.append(", ").append(cell / ends).append(' ').append(cell % ends).append(" is ").append(strength);
                }
            }
            s.append('\n');
        }
    }

    private static void laws(NonsenseRows x, StringBuilder s) {
        for (int law = 0; law < 12; law++) {
            s.append("law ").append(law / 4).append(' ').append(law % 4).append(':');
            for (int thing = 0; thing < x.count(0); thing++) {
                s.append(' ').append(x.law(law / 4, law % 4, 0, thing));
                s.append(' ').append(x.law(law / 4, law % 4, 777, thing));
            }
            s.append('\n');
        }
    }
}
