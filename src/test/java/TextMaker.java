import java.util.Arrays;
import java.util.Random;

/** Makes texts that may be read, and spoils some. */
final class TextMaker {
    private static final String[] NAMES = {"tide", "since", "cork", "luck", "at", "from", "to"};
    private static final String[] SIGNS = {"<", "<=", ">", ">=", "=", "#"};
    private static final String[] BITS = {
        "comes ", "wears ", "near ", " if ", " then ", " else ", " end ", "not ", " and ", " or ", "later ", " than ",
        "places ", "(", ")", "-", "+", "/", "*", ";", "<", "=", "#", ">=", "10000", "9999", "0", "61", "100", "6 ",
        "12 ", "tide 5;", "again 3;", "wears 1;", "comes 2;", "x", "Tide", " ", "\n", "\t", "!", "\u00e9", "007",
        "from ", "to ", "((((", "-(-(", "not not not ", "places places ",
        "((((((((", "-(-(-(-(-", "later later ", "wears 1", "near", "if 1<2 then "};

    private final Random random;

    TextMaker(Random random) {
        this.random = random;
    }

    String make() {
        for (int tries = 0; tries < 1000; tries++) {
            String text = tryMake();
            if (text.length() <= 300) return text;
        }
        return "";
    }

    /** Now and then deeper than may be, with a law twice, or with a name that is not the law's. */
    private String tryMake() {
        int deep = n(6) == 0 ? 10 : 3;
        boolean twice = n(10) == 0;
        boolean near = n(10) == 0;
        StringBuilder out = new StringBuilder();
        int clauses = n(10) == 0 ? 22 + n(5) : n(8);
        boolean comes = false;
        boolean wears = false;
        for (int i = 0; i < clauses; i++) {
            int kind = n(clauses > 8 ? 14 : 9);
            if (kind == 0 && (twice || !comes)) {
                comes = true;
                out.append("comes ").append(sum(deep, true));
            } else if (kind == 1 && (twice || !wears)) {
                wears = true;
                out.append("wears ").append(sum(deep, near));
            } else {
                out.append(deed(clauses > 8 ? 7 + n(2) : kind));
            }
            out.append(n(5) == 0 ? " ;\n" : ";");
        }
        return out.toString();
    }

    private String deed(int kind) {
        switch (kind) {
            case 2: return "person " + n(10) + " luck " + n(10);
            case 3: return "current " + n(3) + " from " + n(10) + " to " + n(10);
            case 4:
            case 5: return "toss " + n(6) + " to " + n(6) + " cork " + (1 + n(99));
            case 6: return "fish " + n(12) + " by " + n(6);
            case 7: return "again " + n(12);
            default: return "tide " + (1 + (random.nextInt(4) == 0 ? n(60) : n(3)));
        }
    }

    private int n(int below) {
        return random.nextInt(below);
    }

    private String sum(int deep, boolean near) {
        StringBuilder out = new StringBuilder(product(deep, near));
        while (n(3) == 0) out.append(n(2) == 0 ? "+" : "-").append(product(deep, near));
        return out.toString();
    }

    private String product(int deep, boolean near) {
        StringBuilder out = new StringBuilder(one(deep, near));
        while (n(5) == 0) out.append(n(2) == 0 ? "*" : "/").append(one(deep, near));
        return out.toString();
    }

    private String one(int deep, boolean near) {
        int kind = n(deep > 0 ? 12 : 6);
        if (deep > 3) kind = n(12) == 0 ? 10 : 6 + n(4);
        if (kind < 3) return " " + (n(3) == 0 ? n(10000) : n(13)) + " ";
        if (kind < 6) return " " + (near && n(3) == 0 ? "near" : NAMES[n(NAMES.length)]) + " ";
        switch (kind) {
            case 6: return "(" + sum(deep - 1, near) + ")";
            case 7: return "-" + one(deep - 1, near);
            case 8: return " later " + one(deep - 1, near) + "than " + one(deep - 1, near);
            case 9: return " places " + one(deep - 1, near);
            default:
                return " if " + either(deep - 1, near) + " then" + sum(deep - 1, near) + "else" + sum(deep - 1, near)
                    + "end ";
        }
    }

    private String either(int deep, boolean near) {
        StringBuilder out = new StringBuilder(both(deep, near));
        while (n(4) == 0) out.append(" or ").append(both(deep, near));
        return out.toString();
    }

    private String both(int deep, boolean near) {
        StringBuilder out = new StringBuilder(ask(deep, near));
        while (n(4) == 0) out.append(" and ").append(ask(deep, near));
        return out.toString();
    }

    private String ask(int deep, boolean near) {
        if (n(4) == 0) return "not " + ask(deep, near);
        return sum(deep, near) + SIGNS[n(SIGNS.length)] + sum(deep, near);
    }

    byte[] spoil(byte[] text) {
        byte[] bytes = text;
        for (int times = 1 + n(3); times > 0; times--) {
            int at = n(bytes.length + 1);
            int gone = Math.min(n(5), bytes.length - at);
            String bit = n(4) == 0 ? "" : BITS[n(BITS.length)];
            byte[] next = new byte[bytes.length - gone + bit.length()];
            System.arraycopy(bytes, 0, next, 0, at);
            for (int i = 0; i < bit.length(); i++) next[at + i] = (byte) bit.charAt(i);
            System.arraycopy(bytes, at + gone, next, at + bit.length(), bytes.length - at - gone);
            bytes = next;
        }
        return bytes.length <= 300 ? bytes : Arrays.copyOf(bytes, 300);
    }
}
