import java.util.Random;

/** Promises 34 and 35: days by draws, compared with the same acts done by hand. */
final class DrawTest {
    private static int x;

    private static int draw(int n) {
        x = x * 1103515245 + 12345;
        return (x >>> 8) % n;
    }

    /** The same days on another object, by its own acts. */
    private static int byHand(FuneralUmbrellas o, int n, int seed) {
        x = seed;
        int days = 0;
        while (days < n && o.now(0) < 200) {
            for (int p = 0; p < o.count(1); p++) {
                int act = draw(6);
                if (act == 0 || act == 1) {
                    o.go(p, draw(o.count(0)));
                } else if (act == 2) {
                    if (o.count(3) > 0) {
                        o.take(p, draw(o.count(3)));
                    }
                } else if (act == 3 && o.person(p, 4) != 0) {
                    o.leave(p, Integer.numberOfTrailingZeros(o.person(p, 4)));
                }
            }
            if (draw(12) == 0) {
                o.funeral(draw(o.count(0)));
            }
            o.days(1);
            days++;
        }
        return days;
    }

    public static void main(String[] args) {
        edges();
        byChance();
        Check.finish("DrawTest");
    }

    private static void edges() {
        FuneralUmbrellas o = Check.of("place a;");
        Check.due("drawn() without persons", o.drawn(1, 1), -1);
        Check.due("odds() without persons", o.odds(0, 1, 1), -1);
        o = Check.of("place a;person p a;sorrow p 30 1;sorrow p 31 1;");
        Check.due("drawn(0, 1)", o.drawn(0, 1), -1);
        Check.due("drawn(61, 1)", o.drawn(61, 1), -1);
        Check.due("drawn(-1, 1)", o.drawn(-1, 1), -1);
        Check.due("odds(1, 1, 1)", o.odds(1, 1, 1), -1);
        Check.due("odds(-1, 1, 1)", o.odds(-1, 1, 1), -1);
        Check.due("odds(0, 0, 1)", o.odds(0, 0, 1), -1);
        Check.due("odds(0, 31, 1)", o.odds(0, 31, 1), -1);
        Check.due("odds(0, 30, 1), none can spare him", o.odds(0, 30, 1), 30);
        Check.due("odds() kept nothing", o.undo(), -1);
        o.days(31);
        Check.due("odds(0, 30, 1), no more is ahead", o.odds(0, 30, 1), 0);
        Check.due("drawn(60, 9)", o.drawn(60, 9), 60);
        Check.due("drawn(60, 9)", o.drawn(60, 9), 60);
        Check.due("drawn(60, 9), 49 left", o.drawn(60, 9), 49);
        Check.due("drawn(60, 9), none left", o.drawn(60, 9), 0);
        Check.due("which is not kept", o.undo(), 3);
        o = Check.of("place a;person p a;sorrow p 31 1;");
        Check.due("odds(0, 5, 1), a day too late", o.odds(0, 5, 1), 0);
    }

    private static void byChance() {
        Random random = new Random(3);
        for (int round = 0; round < 150; round++) {
            String text = Towns.text(random);
            FuneralUmbrellas a = Check.of(text);
            FuneralUmbrellas b = Check.of(text);
            if (a.count(1) == 0) {
                continue;
            }
            for (int i = 0; i < 4; i++) {
                int n = 1 + random.nextInt(60);
                int seed = random.nextInt();
                compareOdds(a, b, random.nextInt(a.count(1)), seed);
                Check.due("drawn(" + n + ", " + seed + ")", a.drawn(n, seed), byHand(b, n, seed));
                Check.due("all is the same", Check.all(a).equals(Check.all(b)), true);
            }
        }
    }

    private static void compareOdds(FuneralUmbrellas a, FuneralUmbrellas b, int p, int seed) {
        b.image(0);
        int times = 0;
        for (int i = 0; i < 5; i++) {
            int wept = b.person(p, 3);
            byHand(b, 30, seed + i);
            times += b.person(p, 3) > wept ? 1 : 0;
            b.restore(0);
        }
        String before = Check.all(a);
        Check.due("odds(" + p + ", 5, " + seed + ")", a.odds(p, 5, seed), times);
        Check.due("all stays", Check.all(a).equals(before), true);
        Check.due("seeds wrap", a.odds(p, 2, Integer.MAX_VALUE),
                a.odds(p, 1, Integer.MAX_VALUE) + a.odds(p, 1, Integer.MIN_VALUE));
    }
}
