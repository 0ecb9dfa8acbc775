import java.util.Random;

/** Makes random texts of laws and conditions, good ones and spoilt ones. */
final class TextMaker {
    private static final String[] WHO = {"finder", "owner", "ground", "halves", "crown"};
    private static final String[] NAMES =
        {"way", "place", "worth", "walled", "marks", "rare", "own", "age", "cried", "claims"};
    private static final String[] SPOILS = {";", " ", "(", ")", "[", "]", "not ", "and ", "or", "u", "u1", "u12", "10000",
        "9999", "00009999", "<", "=", "+", "-", "cry", "if ", "x", "X", "way", "\0", "\u00e9", "crown;", "[[[", "not not not ", "(("};

    private final Random random;
    private final int unknowns;
    private String latest = "owner;";

    TextMaker(Random random, int unknowns) {
        this.random = random;
        this.unknowns = unknowns;
    }

    private String blank() {
        return random.nextInt(12) == 0 ? "  " : "";
    }

    /** Often the latest law with another rule ahead, so that two laws part at few finds. */
    String law() {
        if (random.nextInt(3) == 0) {
            return narrow() + latest;
        }
        latest = freshLaw();
        return latest;
    }

    private String narrow() {
        String text = WHO[random.nextInt(5)] + " if worth" + "<>==".charAt(random.nextInt(4)) + (1 + random.nextInt(62));
        text += random.nextBoolean() ? " and way" + "<>=".charAt(random.nextInt(3)) + random.nextInt(6) : "";
        text += random.nextBoolean() ? " and place" + "<>=".charAt(random.nextInt(3)) + random.nextInt(4) : "";
        text += random.nextBoolean() ? " and own" + "<>".charAt(random.nextInt(2)) + random.nextInt(100) : "";
        text += random.nextBoolean() ? " and walled=" + random.nextInt(2) : "";
        return text + (random.nextBoolean() ? " and u" + random.nextInt(unknowns) : "") + ";";
    }

    private String freshLaw() {
        StringBuilder text = new StringBuilder();
        int rules = random.nextInt(20) == 0 ? 10 + random.nextInt(4) : random.nextInt(6);
        for (int i = 0; i < rules; i++) {
            text.append(blank()).append(WHO[random.nextInt(5)]);
            if (random.nextInt(3) == 0) {
                text.append(" cry").append(random.nextBoolean() ? " " : "").append(random.nextInt(random.nextBoolean() ? 9 : 10002));
            }
            if (rules > 6 ? random.nextInt(3) == 0 : random.nextInt(8) > 0) {
                text.append(" if ").append(or(rules > 3 ? 1 : 2));
            }
            text.append(blank()).append(";");
        }
        return text.append(blank()).toString();
    }

    String condition() {
        if (random.nextInt(60) == 0) {
            return "1=2";
        }
        String text = or(2);
        for (int i = random.nextInt(4); i > 0; i--) {
            text += (random.nextInt(4) == 0 ? " or not u" : " or u") + random.nextInt(unknowns);
        }
        return text;
    }

    private String or(int depth) {
        String text = and(depth);
        for (int i = random.nextInt(3); i > 1; i--) {
            text += " or " + and(depth);
        }
        return text;
    }

    private String and(int depth) {
        String text = basic(depth);
        for (int i = random.nextInt(4); i > 1; i--) {
            text += " and " + blank() + basic(depth);
        }
        return text;
    }

    private String basic(int depth) {
        int kind = random.nextInt(10);
        if (kind < 5) {
            return "u" + random.nextInt(unknowns);
        }
        if (kind == 5) {
            return "not " + basic(depth);
        }
        if (kind == 6 && depth > 0) {
            return "[" + blank() + or(depth - 1) + "]";
        }
        return sum(depth) + blank() + "<>=".charAt(random.nextInt(3)) + blank() + sum(depth);
    }

    private String sum(int depth) {
        String text = term(depth);
        for (int i = random.nextInt(5); i > 2; i--) {
            text += "+-".charAt(random.nextInt(2)) + blank() + term(depth);
        }
        return text;
    }

    private String term(int depth) {
        int kind = random.nextInt(9);
        if (kind < 4) {
            return NAMES[random.nextInt(10)];
        }
        if (kind == 4 && depth > 0) {
            return "(" + sum(depth - 1) + blank() + ")";
        }
        return Integer.toString(random.nextInt(kind == 8 ? 10000 : kind == 7 ? 70 : 5));
    }

    String spoil(String text) {
        StringBuilder spoilt = new StringBuilder(text);
        for (int i = 1 + random.nextInt(2); i > 0; i--) {
            int at = random.nextInt(spoilt.length() + 1);
            switch (random.nextInt(4)) {
                case 0 -> spoilt.setLength(at);
                case 1 -> spoilt.delete(at, Math.min(spoilt.length(), at + 1 + random.nextInt(3)));
                default -> spoilt.insert(at, SPOILS[random.nextInt(SPOILS.length)]);
            }
        }
        return spoilt.toString();
    }
}
