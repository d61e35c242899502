import java.util.Random;

/** Promises 38 and 39: sentences. Their faults are in TextTest. */
final class SentenceTest {
    private static final String TOWN = "place home;place club;place zoo;person ann home heeds;person bob club;"
            + "person cid club heeds;sorrow ann 5 3;sorrow bob 2 7;sorrow ann 30 4;sorrow cid 12 1;brolly old home 3;"
            + "brolly new club 0;brolly rag zoo 12;";

    public static void main(String[] args) {
        plain();
        joined();
        counts();
        kth();
        follows();
        byChance();
        Check.finish("SentenceTest");
    }

    private static int said(FuneralUmbrellas x, String text) {
        Check.sentence(x, text);
        Check.due("fault of " + text, x.fault(), 0);
        int bits = 0;
        int number = x.said(-1);
        for (int k = 0; k < number; k++) {
            bits |= 1 << x.said(k);
        }
        Check.due("none behind the last of " + text, x.said(number), -1);
        return bits;
    }

    private static void due(FuneralUmbrellas x, String text, int bits) {
        Check.due(text, said(x, text), bits);
    }

    private static void plain() {
        FuneralUmbrellas x = Check.of(TOWN);
        Check.due("said(-1) without a sentence", x.said(-1), -1);
        Check.due("said(0) without a sentence", x.said(0), -1);
        due(x, "heeds", 5);
        due(x, "alone", 1);
        due(x, "meant", 1);
        due(x, "at club", 6);
        due(x, "at zoo", 0);
        due(x, "with new", 0);
        x.take(2, 1);
        due(x, "with new", 4);
        due(x, "ahead > 0", 7);
        due(x, "ahead = 1", 6);
        due(x, "ahead < 1", 0);
        due(x, "ahead > 1", 1);
        due(x, "wept = 0", 7);
        due(x, "number > 0", 6);
        due(x, "number=0", 1);
        due(x, "number<2", 3);
        x.days(2);
        due(x, "wept > 6", 2);
        due(x, "wept < 7", 5);
        due(x, "wept = 7", 2);
        due(x, "ahead = 0", 2);
        due(x, "meant", 0);
    }

    private static void joined() {
        FuneralUmbrellas x = Check.of(TOWN);
        due(x, "not heeds", 2);
        due(x, "not not heeds", 5);
        due(x, "heeds and alone", 1);
        due(x, "heeds or at club", 7);
        due(x, "not heeds or alone", 3);
        due(x, "not (heeds or alone)", 2);
        due(x, "number=0 or number=1 and number=2", 1);
        due(x, "number=1 and number=2 or number=0", 1);
        due(x, "(number=0 or number=1) and number=1", 2);
        due(x, "number=2 and (number=0 or number=2)", 4);
        due(x, "not number=0 and not number=1", 4);
        due(x, "not (not (number=0) and not number=1)", 3);
        due(x, "((number=0)) or (number=1 or (number=2 and heeds))", 7);
    }

    private static void counts() {
        FuneralUmbrellas x = Check.of(TOWN);
        Check.due("one", Check.sentence(x, "heeds"), 1);
        Check.due("each not, bracket and other one", Check.sentence(x, "not (heeds and not alone)"), 5);
        Check.due("comparisons", Check.sentence(x, "ahead>1 or(wept=2)"), 3);
    }

    private static void kth() {
        FuneralUmbrellas x = Check.of(TOWN);
        Check.sentence(x, "heeds");
        Check.due("said(-1)", x.said(-1), 2);
        Check.due("said(0)", x.said(0), 0);
        Check.due("said(1)", x.said(1), 2);
        Check.due("said(2)", x.said(2), -1);
        Check.due("said(-2)", x.said(-2), -1);
        Check.due("said(MIN)", x.said(Integer.MIN_VALUE), -1);
        Check.due("said(MAX)", x.said(Integer.MAX_VALUE), -1);
        FuneralUmbrellas none = new FuneralUmbrellas();
        Check.sentence(none, "not heeds");
        Check.due("nobody is there", none.said(-1), 0);
        Check.due("nobody is there", none.said(0), -1);
    }

    private static void follows() {
        FuneralUmbrellas x = Check.of(TOWN);
        Check.sentence(x, "at zoo");
        Check.due("nobody", x.said(-1), 0);
        x.go(1, 2);
        Check.due("said of what is now", x.said(0), 1);
        x.undo();
        Check.due("and undone", x.said(0), -1);
    }

    /** An expression with its set, made together. */
    private static int made(FuneralUmbrellas x, Random random, StringBuilder text, int level) {
        int everybody = (1 << x.count(1)) - 1;
        int kind = random.nextInt(level >= 4 ? 2 : 6);
        if (kind <= 1) {
            int p = random.nextInt(x.count(1));
            if (random.nextBoolean()) {
                text.append("number=").append(p);
                return 1 << p;
            }
            int l = random.nextInt(x.count(0));
            text.append("at l").append((char) ('a' + l));
            return x.place(l, 0);
        }
        if (kind == 2) {
            text.append("not ");
            return everybody & ~one(x, random, text, level + 1);
        }
        if (kind == 3) {
            text.append("(");
            int bits = made(x, random, text, level + 1);
            text.append(")");
            return bits;
        }
        int left = one(x, random, text, level + 1);
        text.append(kind == 4 ? " and " : " or ");
        int right = kind == 4 ? one(x, random, text, level + 1) : made(x, random, text, level + 1);
        return kind == 4 ? left & right : left | right;
    }

    private static int one(FuneralUmbrellas x, Random random, StringBuilder text, int level) {
        text.append("(");
        int bits = made(x, random, text, level + 1);
        text.append(")");
        return bits;
    }

    private static void byChance() {
        Random random = new Random(8);
        int whole = 0;
        for (int round = 0; round < 2000; round++) {
            FuneralUmbrellas x = Check.of(Towns.text(random));
            if (x.count(1) == 0) {
                continue;
            }
            StringBuilder text = new StringBuilder();
            int bits = made(x, random, text, 1);
            if (Check.sentence(x, text.toString()) > 0) {
                whole++;
                due(x, text.toString(), bits);
            } else {
                Check.due("too many ones alone is a fault here", x.fault() == 4 || text.length() > 200, true);
            }
        }
        Check.due("most were whole: " + whole, whole > 1000, true);
        flat(random);
    }

    /** 'and' binds more than 'or', without brackets. */
    private static void flat(Random random) {
        FuneralUmbrellas x = Check.of("place a;person p a;person q a;person r a;person s a;");
        for (int round = 0; round < 500; round++) {
            StringBuilder text = new StringBuilder();
            int result = 0;
            int part = 15;
            int ones = 1 + random.nextInt(8);
            for (int i = 0; i < ones; i++) {
                boolean not = random.nextInt(3) == 0;
                int n = random.nextInt(5);
                int bits = (1 << n) - 1;
                text.append(not ? "not " : "").append("number<").append(n);
                part &= not ? 15 & ~bits : bits;
                boolean and = random.nextBoolean();
                if (i + 1 < ones) {
                    text.append(and ? " and " : " or ");
                }
                if (!and || i + 1 == ones) {
                    result |= part;
                    part = 15;
                }
            }
            due(x, text.toString(), result);
        }
    }
}
