import java.nio.charset.StandardCharsets;
import java.util.NoSuchElementException;

/** What all tests share: it compares answers, and feeds texts to the tape. */
final class Check {
    private static int wrong = 0;
    private static int checked = 0;

    private Check() {
    }

    static void due(String what, long got, long want) {
        checked++;
        if (got != want) {
            wrong++;
            System.out.println(what + " answered " + got + ", due is " + want);
        }
    }

    static void due(String what, boolean got, boolean want) {
        due(what, got ? 1 : 0, want ? 1 : 0);
    }

    interface Call {
        int get();
    }

    static void dueThrown(String what, Call call) {
        boolean thrown = false;
        try {
            call.get();
        } catch (NoSuchElementException e) {
            thrown = true;
        }
        due(what + " throws", thrown, true);
    }

    static void finish(String test) {
        System.out.println(test + ": " + checked + " answers, " + wrong + " of them not as due");
        if (wrong != 0) {
            System.exit(1);
        }
    }

    /** Puts just these bytes on the tape. */
    static void feed(FuneralUmbrellas x, int... bytes) {
        x.end(0);
        for (int i = 0; i < bytes.length; i += 20) {
            int[] n = new int[5];
            for (int k = 0; k < 20; k++) {
                int b = i + k < bytes.length ? bytes[i + k] & 255 : 0;
                n[k / 4] |= b << (24 - 8 * (k % 4));
            }
            x.feed(n[0], n[1], n[2], n[3], n[4]);
        }
        x.end(bytes.length);
    }

    static void feed(FuneralUmbrellas x, String text) {
        byte[] bytes = text.getBytes(StandardCharsets.ISO_8859_1);
        int[] numbers = new int[bytes.length];
        for (int i = 0; i < bytes.length; i++) {
            numbers[i] = bytes[i] & 255;
        }
        feed(x, numbers);
    }

    static int town(FuneralUmbrellas x, String text) {
        feed(x, text);
        return x.town();
    }

    static int book(FuneralUmbrellas x, String text, int lives) {
        feed(x, text);
        return x.book(lives);
    }

    static int sentence(FuneralUmbrellas x, String text) {
        feed(x, text);
        return x.sentence();
    }

    static FuneralUmbrellas of(String text) {
        FuneralUmbrellas x = new FuneralUmbrellas();
        int lines = town(x, text);
        if (lines < 0) {
            due("the town " + text, lines, 0);
        }
        return x;
    }

    static String tag(FuneralUmbrellas x, int u) {
        int length = x.tag(u);
        StringBuilder text = new StringBuilder();
        for (int i = 0; i < length; i++) {
            text.append((char) x.byteAt(i));
        }
        return text.toString();
    }

    /** All that is so, as one text, so that two objects can be compared. */
    static String all(FuneralUmbrellas x) {
        StringBuilder text = new StringBuilder();
        for (int what = 0; what < 5; what++) {
            text.append(x.count(what)).append(' ');
        }
        for (int what = 0; what < 8; what++) {
            text.append(x.now(what)).append(' ');
        }
        for (int p = 0; p < x.count(1); p++) {
            for (int what = 0; what < 7; what++) {
                text.append(x.person(p, what)).append(' ');
            }
        }
        for (int s = 0; s < x.count(2); s++) {
            for (int what = 0; what < 4; what++) {
                text.append(x.sorrow(s, what)).append(' ');
            }
        }
        for (int u = 0; u < x.count(3); u++) {
            for (int what = 0; what < 6; what++) {
                text.append(x.umbrella(u, what)).append(' ');
            }
        }
        return text.append(x.said(-1)).toString();
    }
}
