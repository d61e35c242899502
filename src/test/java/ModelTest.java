import java.nio.charset.StandardCharsets;
import java.util.NoSuchElementException;
import java.util.Random;

/** Runs of calls by chance, near all edges: the class answers as the model does, which reads the document anew. */
final class ModelTest {
    private static final int[] EDGES = {Integer.MIN_VALUE, Integer.MIN_VALUE + 1, Integer.MAX_VALUE, -1000, -2, -1, 0, 1, 2,
        3, 4, 5, 6, 7, 8, 13, 14, 15, 20, 29, 30, 31, 59, 60, 61, 198, 199, 200, 201, 899, 900, 901, 940, 941};
    private static final int RUNS = 2500;
    private static final int CALLS = 160;

    private final FuneralUmbrellas x = new FuneralUmbrellas();
    private final Model m = new Model();
    private final Random random;
    private final StringBuilder story = new StringBuilder();

    private ModelTest(long seed) {
        random = new Random(seed);
    }

    public static void main(String[] args) {
        for (int run = 0; run < RUNS; run++) {
            ModelTest test = new ModelTest(run);
            test.wholeTown();
            for (int i = 0; i < CALLS; i++) {
                test.call();
            }
        }
        Check.finish("ModelTest");
    }

    private void due(String call, int got, int want) {
        story.append(call).append(" -> ").append(want).append('\n');
        if (got != want) {
            System.out.println(story.substring(Math.max(0, story.length() - 2000)));
        }
        Check.due(call, got, want);
    }

    private void due(String call, boolean got, boolean want) {
        due(call, got ? 1 : 0, want ? 1 : 0);
    }

    private interface Thrower {
        int get();
    }

    /** A call that may throw answers -7777 if it does. */
    private static int caught(Thrower call) {
        try {
            return call.get();
        } catch (NoSuchElementException | IllegalStateException e) {
            return -7777;
        }
    }

    private int number(int most) {
        int kind = random.nextInt(24);
        if (kind == 0) {
            return random.nextInt();
        }
        return kind == 1 ? EDGES[random.nextInt(EDGES.length)] : random.nextInt(most + 3) - 1;
    }

    private void feed(byte[] bytes) {
        for (int i = 0; i < bytes.length; i += 20) {
            int[] n = new int[5];
            for (int k = 0; k < 20 && i + k < bytes.length; k++) {
                n[k / 4] |= (bytes[i + k] & 255) << (24 - 8 * (k % 4));
            }
            due("feed()", x.feed(n[0], n[1], n[2], n[3], n[4]), m.feed(n));
        }
        due("end()", x.end(bytes.length), m.end(bytes.length));
    }

    private void wholeTown() {
        text(Towns.text(random));
        due("town()", x.town(), m.town());
    }

    private void text(int sort) {
        text(sort == 0 ? Texts.town(random) : sort == 1 ? Texts.book(random) : Texts.sentence(random));
    }

    private void text(String text) {
        story.append('"').append(text).append('"').append('\n');
        x.end(0);
        m.end(0);
        feed(text.getBytes(StandardCharsets.ISO_8859_1));
    }

    private void sightings(int row, int... most) {
        byte[] bytes = new byte[row * (1 + random.nextInt(3)) + (random.nextInt(8) == 0 ? random.nextInt(12) : 0)];
        for (int i = 0; i < bytes.length; i++) {
            bytes[i] = (byte) random.nextInt(most[i % row]);
        }
        x.end(0);
        m.end(0);
        feed(bytes);
    }

    private void call() {
        switch (random.nextInt(12)) {
            case 0: tapeCall(); break;
            case 1: case 2: textCall(); break;
            case 3: case 4: case 5: actCall(); break;
            case 6: case 7: case 8: lookCall(); break;
            case 9: clueCall(); break;
            case 10: planCall(); break;
            default: drawCall(); break;
        }
        due("now(0)", x.now(0), m.now(0));
    }

    private void tapeCall() {
        int a = number(20);
        int[] n = {random.nextInt(), a, random.nextInt(), -1, Integer.MIN_VALUE};
        switch (random.nextInt(4)) {
            case 0: due("feed()", x.feed(n[0], n[1], n[2], n[3], n[4]), m.feed(n)); break;
            case 1: due("end(" + a + ")", x.end(a), m.end(a)); break;
            case 2: due("image(" + a % 3 + ")", x.image(a % 3), m.image(a % 3)); break;
            default: due("restore(" + a % 3 + ")", x.restore(a % 3), m.restore(a % 3)); break;
        }
    }

    private void textCall() {
        int lives = random.nextInt(12) == 0 ? number(2) : random.nextInt(2);
        switch (random.nextInt(20)) {
            case 0: text(0); due("town()", x.town(), m.town()); break;
            case 1: text(random.nextInt(3)); due("town()", x.town(), m.town()); break;
            case 2: due("book(" + lives + ")", x.book(lives), m.book(lives)); break;
            case 3: due("sentence()", x.sentence(), m.sentence()); break;
            case 4: case 5: case 6: case 7: case 8: case 9: case 10: case 11:
                text(1);
                due("book(" + lives + ")", x.book(lives), m.book(lives));
                break;
            default: text(2); due("sentence()", x.sentence(), m.sentence()); break;
        }
        due("fault()", x.fault(), m.fault());
        for (int what = -1; what <= 4; what++) {
            due("told(" + what + ")", x.told(what), m.told(what));
        }
        due("said(-1)", x.said(-1), m.said(-1));
    }

    private void actCall() {
        int p = number(6);
        int l = number(4);
        int u = number(5);
        int n = random.nextInt(6) == 0 ? number(61) : number(8);
        switch (random.nextInt(9)) {
            case 0: case 1: due("go(" + p + ", " + l + ")", x.go(p, l), m.go(p, l)); break;
            case 2: case 3: case 4: due("take(" + p + ", " + u + ")", x.take(p, u), m.take(p, u)); break;
            case 5: due("leave(" + p + ", " + u + ")", x.leave(p, u), m.leave(p, u)); break;
            case 6: due("funeral(" + l + ")", x.funeral(l), m.funeral(l)); break;
            case 7: due("days(" + n + ")", x.days(n), m.days(n)); break;
            default: due("undo()", x.undo(), m.undo()); break;
        }
    }

    private void lookCall() {
        int i = number(7);
        int s = number(14);
        int what = number(8);
        int n = random.nextBoolean() ? number(61) : number(200);
        switch (random.nextInt(10)) {
            case 0: due("person(" + i + ", " + what + ")", caught(() -> x.person(i, what)), caught(() -> m.person(i, what))); break;
            case 1: due("umbrella(" + i + ", " + what + ")", caught(() -> x.umbrella(i, what)), caught(() -> m.umbrella(i, what))); break;
            case 2: due("sorrow(" + s + ", " + i + ")", caught(() -> x.sorrow(s, i)), caught(() -> m.sorrow(s, i))); break;
            case 3: due("place(" + i + ", " + what % 3 + ")", x.place(i, what % 3), m.place(i, what % 3)); break;
            case 4: due("now(" + what + ")", x.now(what), m.now(what)); break;
            case 5: due("count(" + what + ")", x.count(what), m.count(what)); break;
            case 6: due("next(" + i + ")", x.next(i), m.next(i)); break;
            case 7: due("sorry(" + n + ")", x.sorry(n), m.sorry(n)); break;
            case 8: due("weeps(" + n + ")", x.weeps(n), m.weeps(n)); break;
            default: due("said(" + i + ")", x.said(i), m.said(i)); break;
        }
    }

    private void clueCall() {
        if (random.nextBoolean()) {
            sightings(2, random.nextInt(6) == 0 ? 256 : 1 << x.count(1), random.nextInt(10) == 0 ? 3 : 2);
            due("meant()", x.meant(), m.meant());
        } else {
            sightings(3, random.nextInt(8) == 0 ? 14 : 12, random.nextInt(4) == 0 ? 256 : 60, random.nextInt(10) == 0 ? 3 : 2);
            due("far()", x.far(), m.far());
        }
        due("surely()", x.surely(), m.surely());
        due("ask()", x.ask(), m.ask());
        due("count(5)", x.count(5), m.count(5));
    }

    private void planCall() {
        int u = number(5);
        int p = number(6);
        int n = number(7);
        switch (random.nextInt(6)) {
            case 0: due("cover()", x.cover(), m.cover()); break;
            case 1: due("hiding()", x.hiding(), m.hiding()); break;
            case 2: due("turns(" + u + ", " + p + ", " + n + ")", x.turns(u, p, n), m.turns(u, p, n)); break;
            case 3: due("tag(" + u + ")", x.tag(u), m.tag(u)); break;
            default: due("toldOf(" + u + ", " + n % 5 + ")", x.toldOf(u, n % 5), m.toldOf(u, n % 5)); break;
        }
        due("toldAt(" + n + ")", x.toldAt(n), m.toldAt(n));
        due("covering()", x.covering(), m.covering());
        due("hidden(" + p + ")", x.hidden(p), m.hidden(p));
        due("turn()", x.turn(), m.turn());
        int i = number(28);
        due("byteAt(" + i + ")", x.byteAt(i), m.byteAt(i));
    }

    private void drawCall() {
        int p = number(6);
        int n = random.nextInt(4) == 0 ? number(61) : number(5);
        int seed = random.nextBoolean() ? random.nextInt() : EDGES[random.nextInt(3)] - random.nextInt(3);
        if (random.nextInt(3) != 0) {
            due("odds(" + p + ", " + n + ", " + seed + ")", x.odds(p, n, seed), m.odds(p, n, seed));
        } else {
            due("drawn(" + n + ", " + seed + ")", x.drawn(n, seed), m.drawn(n, seed));
        }
    }
}
