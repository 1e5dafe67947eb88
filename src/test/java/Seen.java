/** All that an object tells of itself, as one text; asking for it changes nothing but TROUBLE. */
final class Seen {
    private Seen() {
    }

    static String now(YearSkins x) {
        StringBuilder seen = new StringBuilder("sizes");
        for (int what = 0; what <= 12; what++) {
            seen.append(' ').append(x.size(what));
        }
        seen.append(", cells");
        for (int cell = 0; cell < x.size(0) * x.size(1); cell++) {
            seen.append(' ').append(x.whose(cell % x.size(0), cell / x.size(0)));
        }
        for (int h = 0; h < x.size(5); h++) {
            addHouse(seen, x, h);
        }
        for (int i = 0; i < x.size(6); i++) {
            seen.append(", heir ").append(x.heir(i, 0)).append(' ').append(x.heir(i, 1));
        }
        for (int s = 0; s < x.size(4); s++) {
            seen.append(", stone");
            for (int what = 0; what < 5; what++) {
                seen.append(' ').append(x.stone(s, what));
            }
        }
        seen.append(", orders ").append(x.orders());
        for (int w = 0; w < x.size(7); w++) {
            seen.append(", wall ").append(x.soonest(w)).append(' ').append(x.latest(w));
        }
        return seen.toString();
    }

    private static void addHouse(StringBuilder seen, YearSkins x, int h) {
        seen.append(", house");
        for (int what = 0; what <= 6; what++) {
            seen.append(' ').append(x.house(h, what));
        }
        for (int r = 1; r <= x.house(h, 1); r++) {
            seen.append(", skin");
            for (int what = 0; what < 8; what++) {
                seen.append(' ').append(x.skin(h, r, what));
            }
        }
        // Births, fire and earns are told by nothing else.
        seen.append(", in 3");
        for (int what = 0; what <= 4; what++) {
            seen.append(' ').append(x.in(h, 3, what));
        }
    }

    /** Also what UNDO and MARKS bring back; afterwards the object is where its last MARK was. */
    static String withPast(YearSkins x) {
        StringBuilder seen = new StringBuilder(now(x));
        for (int i = 0; i < 12 && x.undo(); i++) {
            seen.append("; undone: ").append(now(x));
        }
        for (int mark = 0; mark < x.size(11); mark++) {
            seen.append("; back ").append(x.back(mark)).append(": ").append(now(x));
        }
        return seen.toString();
    }
}
