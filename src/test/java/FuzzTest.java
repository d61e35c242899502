import java.util.NoSuchElementException;
import java.util.Random;

/** Whatever is called with whatever numbers: nothing is thrown but what the document tells. */
final class FuzzTest {
    private static final int[] EDGES = {Integer.MIN_VALUE, Integer.MAX_VALUE, -1000, -2, -1, 0, 1, 2, 3, 4, 5, 6, 7, 8,
        13, 14, 15, 19, 20, 29, 30, 31, 59, 60, 61, 199, 200, 201, 899, 900, 901, 940, 941};
    private static final String[] WORDS = {"place", "person", "heeds", "sorrow", "brolly", "far", "goes", "takes",
        "leaves", "funeral", "day", "or", "and", "not", "alone", "meant", "at", "with", "ahead", "wept", "number", ";",
        ";", ";", "<", "=", ">", "(", ")", "1", "12", "5", "la", "lb", "pa", "pb", "ua", "ub", "abcdefgh", ".", "1000"};

    public static void main(String[] args) {
        Random random = new Random(1);
        for (int round = 0; round < 3000; round++) {
            FuneralUmbrellas x = new FuneralUmbrellas();
            for (int i = 0; i < 120; i++) {
                call(x, random);
            }
        }
        Check.finish("FuzzTest");
    }

    private static int number(Random random) {
        int kind = random.nextInt(10);
        if (kind == 0) {
            return random.nextInt();
        }
        return kind < 3 ? EDGES[random.nextInt(EDGES.length)] : random.nextInt(8) - 1;
    }

    private static void text(FuneralUmbrellas x, Random random) {
        StringBuilder text = new StringBuilder();
        int words = random.nextInt(60);
        for (int i = 0; i < words; i++) {
            text.append(WORDS[random.nextInt(WORDS.length)]).append(random.nextInt(8) == 0 ? "" : " ");
        }
        Check.feed(x, text.length() > 900 ? text.substring(0, 900) : text.toString());
    }

    private static void call(FuneralUmbrellas x, Random random) {
        int a = number(random);
        int b = number(random);
        int c = number(random);
        switch (random.nextInt(47)) {
            case 0: x.feed(a, b, c, a, random.nextInt()); break;
            case 1: x.end(a); break;
            case 2: x.town(); break;
            case 3: x.fault(); break;
            case 4: thrower(() -> x.person(a, b)); break;
            case 5: thrower(() -> x.umbrella(a, b)); break;
            case 6: thrower(() -> x.sorrow(a, b)); break;
            case 7: x.place(a, b); break;
            case 8: x.now(a); break;
            case 9: x.go(a, b); break;
            case 10: x.take(a, b); break;
            case 11: x.leave(a, b); break;
            case 12: x.funeral(a); break;
            case 13: x.days(a); break;
            case 14: x.undo(); break;
            case 15: x.next(a); break;
            case 16: x.sorry(a); break;
            case 17: x.weeps(a); break;
            case 18: x.meant(); break;
            case 19: x.surely(); break;
            case 20: x.ask(); break;
            case 21: x.far(); break;
            case 22: x.toldOf(a, b); break;
            case 23: x.toldAt(a); break;
            default: callMore(x, random, a, b, c); break;
        }
    }

    private static void callMore(FuneralUmbrellas x, Random random, int a, int b, int c) {
        switch (random.nextInt(22)) {
            case 0: x.cover(); break;
            case 1: x.covering(); break;
            case 2: x.hiding(); break;
            case 3: x.hidden(a); break;
            case 4: x.turns(a, b, c); break;
            case 5: x.turn(); break;
            case 6: x.tag(a); break;
            case 7: x.byteAt(a); break;
            case 8: x.drawn(a, b); break;
            case 9: x.odds(a, b, c); break;
            case 10: x.book(a); break;
            case 11: x.told(a); break;
            case 12: x.sentence(); break;
            case 13: x.said(a); break;
            case 14: x.image(a); break;
            case 15: x.restore(a); break;
            case 16: x.count(a); break;
            case 17: text(x, random); break;
            case 18: Check.town(x, Towns.text(random)); break;
            case 19: text(x, random); x.sentence(); break;
            case 20: text(x, random); x.book(random.nextInt(2)); break;
            default: text(x, random); x.town(); break;
        }
    }

    private static void thrower(Check.Call call) {
        try {
            call.get();
        } catch (NoSuchElementException e) {
            return;
        }
    }
}
