import java.util.Random;

/** Texts by chance that keep near the edges of the document: nearly whole towns, books and sentences. */
final class Texts {
    private static final String[] TOKENS = {"place", "person", "heeds", "sorrow", "brolly", "far", "goes", "takes",
        "leaves", "funeral", "day", "or", "and", "not", "alone", "meant", "at", "with", "ahead", "wept", "number", ";",
        "<", "=", ">", "(", ")", "0", "1", "2", "5", "6", "12", "13", "20", "21", "60", "61", "199", "200", "999", "0001",
        "la", "le", "pa", "pg", "ua", "uf", "zz", "abcdefg", "abcdefgh", "a1", "1a", ".", "A", "\t", "\0", "\u00e1"};
    private static final String[] DAYS = {"1", "1", "1", "2", "2", "3", "7", "20", "59", "60", "060", "0", "61"};

    private Texts() {
    }

    private static String token(Random random) {
        return TOKENS[random.nextInt(TOKENS.length)];
    }

    private static String name(Random random, char sort, int most) {
        return "" + sort + (char) ('a' + random.nextInt(most));
    }

    /** A town, at times with a line too many or a fault. */
    static String town(Random random) {
        String text = Towns.text(random);
        if (random.nextInt(3) == 0) {
            StringBuilder more = new StringBuilder(text);
            for (int i = random.nextInt(6); i > 0; i--) {
                more.append(townLine(random));
            }
            text = more.toString();
        }
        return spoilt(random, text, 900);
    }

    private static String townLine(Random random) {
        switch (random.nextInt(5)) {
            case 0: return "place " + name(random, 'l', 7) + ";";
            case 1: return "person " + name(random, 'p', 9) + " " + name(random, 'l', 5) + ";";
            case 2: return "sorrow " + name(random, 'p', 8) + " " + random.nextInt(202) + " " + random.nextInt(23) + ";";
            case 3: return "brolly " + name(random, 'u', 8) + " " + name(random, 'l', 5) + " " + random.nextInt(14) + ";";
            default: return "far " + random.nextInt(7) + ";";
        }
    }

    static String book(Random random) {
        StringBuilder text = new StringBuilder();
        int lines = random.nextInt(4) == 0 ? 36 + random.nextInt(8) : random.nextInt(8);
        for (int i = 0; i < lines; i++) {
            text.append(lines > 30 && random.nextInt(12) != 0 ? "day 1;" : bookLine(random));
        }
        return spoilt(random, text.toString(), 400);
    }

    private static String bookLine(Random random) {
        String who = name(random, 'p', 2);
        switch (random.nextInt(5)) {
            case 0: return who + " goes " + name(random, 'l', 3) + ";";
            case 1: return who + " takes " + name(random, 'u', 2) + ";";
            case 2: return who + " leaves " + name(random, 'u', 2) + ";";
            case 3: return "funeral " + name(random, 'l', 2) + ";";
            default: return "day " + DAYS[random.nextInt(DAYS.length)] + ";";
        }
    }

    static String sentence(Random random) {
        StringBuilder text = new StringBuilder();
        int size = 1 + random.nextInt(random.nextBoolean() ? 6 : 24);
        int open = 0;
        for (int i = 0; i < size; i++) {
            while (i < size && random.nextInt(3) == 0) {
                boolean bracket = random.nextBoolean();
                text.append(bracket ? "(" : "not ");
                open += bracket ? 1 : 0;
                i++;
            }
            text.append(one(random));
            while (open > 0 && random.nextInt(3) == 0) {
                text.append(")");
                open--;
            }
            if (i + 1 < size) {
                text.append(random.nextBoolean() ? " and " : " or ");
            }
        }
        return spoilt(random, text.append(")".repeat(open)).toString(), 200);
    }

    private static String one(Random random) {
        switch (random.nextInt(6)) {
            case 0: return "heeds";
            case 1: return random.nextBoolean() ? "alone" : "meant";
            case 2: return "at " + name(random, 'l', 3);
            case 3: return "with " + name(random, 'u', 3);
            case 4: return "number" + "<=>".charAt(random.nextInt(3)) + random.nextInt(8);
            default: return (random.nextBoolean() ? "ahead" : "wept") + "<=>".charAt(random.nextInt(3)) + random.nextInt(30);
        }
    }

    /** At times with another token, a token more, cut off, or about as long as may be. */
    private static String spoilt(Random random, String text, int most) {
        StringBuilder spoilt = new StringBuilder(text);
        int at = random.nextInt(text.length() + 1);
        switch (random.nextInt(12)) {
            case 0: spoilt.insert(at, token(random)); break;
            case 1: spoilt.insert(at, " " + token(random) + " "); break;
            case 2: spoilt.setLength(at); break;
            case 3: spoilt.delete(at, Math.min(text.length(), at + 1 + random.nextInt(6))); break;
            case 4: pad(spoilt, at, most - 3 + random.nextInt(6)); break;
            case 5: pad(spoilt, text.length(), most - 3 + random.nextInt(6)); break;
            case 6: pad(spoilt, 0, most - 12 + random.nextInt(24)); break;
            case 7: pad(spoilt, at, most - 12 + random.nextInt(24)); break;
            default: break;
        }
        return spoilt.length() > 940 ? spoilt.substring(0, 940) : spoilt.toString();
    }

    /** Blanks in the middle, till it is so long. */
    private static void pad(StringBuilder text, int at, int length) {
        if (text.length() < length) {
            text.insert(at, " ".repeat(length - text.length()));
        }
    }
}
