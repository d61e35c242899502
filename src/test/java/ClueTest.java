/** Promises 20 to 23: what the sightings on the tape mean, and how far ahead umbrellas feel. */
final class ClueTest {
    private static final String FOUR = "place l;person a l;person b l;person c l;person d l;";

    public static void main(String[] args) {
        meant();
        latest();
        wrongPairs();
        againstAllSets();
        far();
        wrongTriples();
        Check.finish("ClueTest");
    }

    private static void dueMeant(FuneralUmbrellas x, int sets, int sure, int ask, int... bytes) {
        Check.feed(x, bytes);
        Check.due("meant()", x.meant(), sets);
        Check.due("surely()", x.surely(), sure);
        Check.due("ask()", x.ask(), ask);
        Check.due("the tape is empty", x.count(5), 0);
    }

    private static void meant() {
        FuneralUmbrellas x = Check.of(FOUR);
        Check.due("surely() ahead of any", x.surely(), -1);
        Check.due("ask() ahead of any", x.ask(), -1);
        // near a and b, not near b: a for sure, c and d open: c is in as many as not
        dueMeant(x, 4, 1, 2, 3, 1, 2, 0);
        // nothing is known of all: the first
        dueMeant(x, 16, 0, 0, 0, 0);
        dueMeant(x, 1, 0, 0, 15, 0);
        dueMeant(x, 15, 0, 0, 15, 1);
        dueMeant(x, 1, 15, 0, 1, 1, 2, 1, 4, 1, 8, 1);
        // sets of {a b c} but none with c, d for sure
        dueMeant(x, 3, 8, 0, 3, 1, 4, 0, 8, 1);
        FuneralUmbrellas none = new FuneralUmbrellas();
        dueMeant(none, 1, 0, -1, 0, 0);
    }

    private static void latest() {
        FuneralUmbrellas x = Check.of(FOUR);
        dueMeant(x, 4, 1, 2, 3, 1, 2, 0);
        dueMeant(x, 0, 1, 2, 1, 1, 1, 0);
        dueMeant(x, 0, 1, 2, 0, 1);
        dueMeant(x, -1, 1, 2);
        Check.town(x, "place l;");
        Check.due("ask() by what was then", x.ask(), 2);
        Check.due("surely() by what was then", x.surely(), 1);
        Check.due("no persons now", x.count(1), 0);
        dueMeant(x, 1, 0, -1, 0, 0);
    }

    private static void wrongPairs() {
        FuneralUmbrellas x = Check.of(FOUR);
        dueMeant(x, -1, -1, -1);
        dueMeant(x, -1, -1, -1, 1);
        dueMeant(x, -1, -1, -1, 1, 1, 1);
        dueMeant(x, -1, -1, -1, 1, 2);
        dueMeant(x, -1, -1, -1, 16, 1);
        dueMeant(x, -1, -1, -1, 17, 1);
        dueMeant(x, -1, -1, -1, 255, 0);
        dueMeant(x, -1, -1, -1, 1, 1, 1, 1, 1, 1, 1, 1, 1, 1, 1, 1, 1, 1, 1, 1, 1, 1);
        dueMeant(x, 8, 1, 1, 1, 1, 1, 1, 1, 1, 1, 1, 1, 1, 1, 1, 1, 1, 1, 1);
    }

    private static void againstAllSets() {
        java.util.Random random = new java.util.Random(5);
        for (int round = 0; round < 40; round++) {
            int persons = 1 + random.nextInt(7);
            StringBuilder town = new StringBuilder("place l;");
            for (int p = 0; p < persons; p++) {
                town.append("person ").append((char) ('a' + p)).append(" l;");
            }
            FuneralUmbrellas x = Check.of(town.toString());
            for (int i = 0; i < 10; i++) {
                int[] bytes = new int[2 * (1 + random.nextInt(8))];
                for (int k = 0; k < bytes.length; k += 2) {
                    bytes[k] = random.nextInt(1 << persons);
                    bytes[k + 1] = random.nextInt(3) == 0 ? 0 : 1;
                }
                compareSets(x, persons, bytes);
            }
        }
    }

    private static void compareSets(FuneralUmbrellas x, int persons, int[] bytes) {
        int[] in = new int[persons];
        int sets = 0;
        int common = -1;
        for (int set = 0; set < 1 << persons; set++) {
            boolean fits = true;
            for (int k = 0; k < bytes.length; k += 2) {
                fits &= ((bytes[k] & set) != 0 ? 1 : 0) == bytes[k + 1];
            }
            if (fits) {
                sets++;
                common &= set;
                for (int p = 0; p < persons; p++) {
                    in[p] += set >> p & 1;
                }
            }
        }
        int sure = x.surely();
        int ask = x.ask();
        if (sets > 0) {
            sure = common;
            ask = 0;
            for (int p = 1; p < persons; p++) {
                if (Math.abs(2 * in[p] - sets) < Math.abs(2 * in[ask] - sets)) {
                    ask = p;
                }
            }
        }
        dueMeant(x, sets, sure, ask, bytes);
    }

    private static void dueFar(int due, int... bytes) {
        FuneralUmbrellas x = new FuneralUmbrellas();
        Check.feed(x, bytes);
        Check.due("far()", x.far(), due);
        Check.due("the tape is empty", x.count(5), 0);
    }

    private static void far() {
        dueFar(4, 3, 6, 1, 3, 7, 0);
        dueFar(0, 0, 1, 1);
        dueFar(62, 0, 1, 0);
        dueFar(32, 11, 55, 1);
        dueFar(0, 11, 56, 1);
        dueFar(62, 11, 199, 0);
        dueFar(56, 1, 3, 1);
        dueFar(6, 1, 3, 0);
        dueFar(62, 11, 11, 1);
        dueFar(24, 2, 5, 1, 2, 9, 0);
        dueFar(4, 5, 10, 1, 5, 11, 0, 5, 11, 0, 5, 11, 0, 5, 11, 0, 1, 2, 1);
    }

    private static void wrongTriples() {
        dueFar(-1);
        dueFar(-1, 1, 1);
        dueFar(-1, 1, 1, 1, 1);
        dueFar(-1, 12, 1, 1);
        dueFar(-1, 1, 0, 1);
        dueFar(-1, 1, 200, 1);
        dueFar(-1, 1, 1, 2);
        dueFar(-1, 1, 1, 1, 1, 1, 1, 1, 1, 1, 1, 1, 1, 1, 1, 1, 1, 1, 1, 1, 1, 1);
        dueFar(62, 1, 1, 1, 1, 1, 1, 1, 1, 1, 1, 1, 1, 1, 1, 1, 1, 1, 1);
    }
}
