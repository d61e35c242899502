import java.util.Random;

/** Promises 24 to 31: plans for umbrellas and persons. */
final class PlanTest {
    private static final String TOWN = "place home;place club;place zoo;person ann home heeds;person bob club;"
            + "person cid club;sorrow ann 5 3;sorrow bob 2 7;sorrow ann 30 4;sorrow cid 12 1;brolly old home 3;"
            + "brolly new club 0;brolly rag zoo 12;";

    public static void main(String[] args) {
        aheadOfAny();
        wrongOnes();
        told();
        covered();
        hid();
        moved();
        staysAfterwards();
        byChance();
        Check.finish("PlanTest");
    }

    private static void aheadOfAny() {
        FuneralUmbrellas x = Check.of(TOWN);
        Check.due("toldAt(0)", x.toldAt(0), -1);
        Check.due("covering()", x.covering(), -1);
        Check.due("hidden(0)", x.hidden(0), -1);
        Check.due("turn()", x.turn(), -1);
    }

    private static void wrongOnes() {
        FuneralUmbrellas x = Check.of(TOWN);
        x.toldOf(0, 2);
        Check.due("toldOf(3, 1)", x.toldOf(3, 1), -1);
        Check.due("toldOf(-1, 1)", x.toldOf(-1, 1), -1);
        Check.due("toldOf(0, 0)", x.toldOf(0, 0), -1);
        Check.due("toldOf(0, 5)", x.toldOf(0, 5), -1);
        Check.due("toldAt(1) stays", x.toldAt(1), 0);
        Check.due("toldAt(2)", x.toldAt(2), -1);
        Check.due("toldAt(4)", x.toldAt(4), -1);
        Check.due("toldAt(-1)", x.toldAt(-1), -1);
        x.turns(0, 0, 2);
        Check.due("turns(3, 0, 1)", x.turns(3, 0, 1), -1);
        Check.due("turns(-1, 0, 1)", x.turns(-1, 0, 1), -1);
        Check.due("turns(0, 3, 1)", x.turns(0, 3, 1), -1);
        Check.due("turns(0, -1, 1)", x.turns(0, -1, 1), -1);
        Check.due("turns(0, 0, 0)", x.turns(0, 0, 0), -1);
        Check.due("turns(0, 0, 7)", x.turns(0, 0, 7), -1);
        x.take(0, 0);
        Check.due("turns(0, 0, 1), he carries it", x.turns(0, 0, 1), -1);
        Check.due("turn() stays", x.turn(), 1);
        Check.due("turns(0, 1, 1), another one carries it", x.turns(0, 1, 1), 1);
        Check.due("turn()", x.turn(), 0);
        x.hiding();
        Check.due("hidden(-1)", x.hidden(-1), -1);
        Check.due("hidden(3)", x.hidden(3), -1);
        Check.due("hidden(7)", x.hidden(7), -1);
        x.days(60);
        x.days(60);
        x.days(60);
        x.days(17);
        Check.due("toldOf(0, 4), three left", x.toldOf(0, 4), -1);
        Check.due("toldOf(0, 3), three left", x.toldOf(0, 3), 0);
        x.days(3);
        Check.due("toldOf(0, 1), none left", x.toldOf(0, 1), -1);
    }

    private static void told() {
        // each is alone and heeds; only w reaches: it must be with q at once, then with p
        FuneralUmbrellas x = Check.of("place a;place b;place c;person p b heeds;person q c heeds;sorrow p 4 9;"
                + "sorrow q 1 5;sorrow q 9 1;brolly w a 2;brolly z a 0;");
        Check.due("toldOf(0, 1)", x.toldOf(0, 1), 9);
        Check.due("toldAt(0)", x.toldAt(0), 1);
        Check.due("toldAt(1)", x.toldAt(1), -1);
        Check.due("toldOf(0, 2)", x.toldOf(0, 2), 14);
        Check.due("toldAt(0)", x.toldAt(0), 2);
        Check.due("toldAt(1)", x.toldAt(1), 1);
        Check.due("toldOf(1, 3)", x.toldOf(1, 3), 0);
        Check.due("toldAt(2)", x.toldAt(2), 0);
        x.take(0, 0);
        Check.due("all stays", x.now(0) * 100 + x.now(5), 0);
        // what others spare counts, too
        FuneralUmbrellas y = Check.of(TOWN);
        Check.due("toldOf(1, 1)", y.toldOf(1, 1), 3);
        y.take(0, 0);
        Check.due("toldOf(0, 1), carried", y.toldOf(0, 1), 3);
        Check.due("it is carried still", y.umbrella(0, 1), 0);
        y.days(1);
        Check.due("what is spared already does not count", y.toldOf(0, 1), 0);
        Check.due("toldOf(2, 4), day 30 in 24", y.toldOf(2, 4), 0);
        y.days(2);
        Check.due("toldOf(2, 4), then", y.toldOf(2, 4), 4);
        // day 30 is felt from day 6 on, which is ahead of the fourth of these days
        Check.due("toldAt(2)", y.toldAt(2), 0);
        Check.due("toldAt(3)", y.toldAt(3), 0);
    }

    private static void covered() {
        FuneralUmbrellas x = Check.of(TOWN);
        Check.due("cover()", x.cover(), 2);
        Check.due("covering()", x.covering(), 5);
        FuneralUmbrellas none = Check.of("place a;person p a;sorrow p 9 1;brolly u a 2;brolly w a 12;far 1;");
        Check.due("cover() by the second", none.cover(), 1);
        Check.due("covering()", none.covering(), 2);
        FuneralUmbrellas open = Check.of("place a;person p a;sorrow p 19 1;brolly w a 12;far 1;");
        Check.due("open for nobody is not enough", open.cover(), -1);
        Check.due("covering() ahead of any", open.covering(), -1);
        open.days(7);
        Check.due("cover() then", open.cover(), 1);
        open.days(12);
        Check.due("cover() of nobody", open.cover(), 0);
        Check.due("covering() of nobody", open.covering(), 0);
        FuneralUmbrellas few = Check.of("place a;place b;person p a;person q b;sorrow p 2 1;sorrow q 2 1;brolly w a 12;");
        Check.due("one for two places", few.cover(), -1);
        few.go(1, 0);
        Check.due("one for one place", few.cover(), 1);
        Check.due("covering()", few.covering(), 1);
    }

    private static void hid() {
        FuneralUmbrellas x = Check.of("place a;place b;place c;person p a;person q a heeds;person r a;person s a;"
                + "sorrow p 3 1;sorrow q 3 1;sorrow r 3 1;brolly u a 2;brolly w b 2;brolly z a 0;");
        Check.due("hiding()", x.hiding(), 2);
        Check.due("p goes to the least without", x.hidden(0), 2);
        Check.due("q heeds", x.hidden(1), 0);
        Check.due("r goes", x.hidden(2), 2);
        Check.due("for s none opens", x.hidden(3), 0);
        Check.due("nobody has gone", x.place(0, 0), 15);
        x.take(2, 2);
        Check.due("hiding()", x.hiding(), 2);
        Check.due("r carries one", x.hidden(2), 0);
        x.go(3, 2);
        x.go(0, 2);
        Check.due("hiding() of nobody", x.hiding(), 1);
        FuneralUmbrellas all = Check.of("place a;person p a;sorrow p 1 1;brolly u a 1;");
        Check.due("nowhere to go", all.hiding(), 1);
        Check.due("he stays", all.hidden(0), 0);
        Check.town(all, "place a;place b;person p a;person q b;");
        Check.due("by the latest hiding()", all.hidden(0), 0);
        Check.due("who was not then", all.hidden(1), -1);
    }

    private static void moved() {
        FuneralUmbrellas x = Check.of(TOWN);
        Check.due("turns(0, 1, 1)", x.turns(0, 1, 1), 1);
        Check.due("turn()", x.turn(), 0);
        Check.due("turns(0, 0, 2)", x.turns(0, 0, 2), 1);
        Check.due("turn()", x.turn(), 1);
        Check.due("turns(2, 0, 6), it never shuts", x.turns(2, 0, 6), 1);
        Check.due("turn()", x.turn(), 2);
        Check.due("turns(1, 1, 5)", x.turns(1, 1, 5), 0);
        Check.due("turn() is to stay", x.turn(), 1);
        FuneralUmbrellas two = Check.of("place a;place b;place c;person p c;sorrow p 1 1;brolly u b 1;");
        Check.due("the umbrella moves last", two.turns(0, 0, 1), 1);
        Check.due("turn()", two.turn(), 2);
        Check.due("the person moves last", two.turns(0, 0, 2), 0);
        Check.due("turn()", two.turn(), 1);
        Check.due("three moves", two.turns(0, 0, 3), 1);
        Check.due("turn() is to stay", two.turn(), 1);
        Check.due("six moves", two.turns(0, 0, 6), 0);
        FuneralUmbrellas one = Check.of("place a;person p a;sorrow p 1 1;brolly u a 1;");
        Check.due("nowhere to go", one.turns(0, 0, 6), 1);
    }

    private static void staysAfterwards() {
        FuneralUmbrellas x = Check.of(TOWN);
        x.toldOf(0, 1);
        x.cover();
        x.hiding();
        x.turns(0, 0, 2);
        x.image(0);
        Check.town(x, "place a;");
        Check.due("toldAt(0) stays", x.toldAt(0), 0);
        Check.due("covering() stays", x.covering(), 5);
        Check.due("hidden(1) stays", x.hidden(1), 1);
        Check.due("turn() stays", x.turn(), 1);
        x.restore(0);
        Check.due("turn() stays behind restore", x.turn(), 1);
    }

    private static void byChance() {
        Random random = new Random(11);
        for (int round = 0; round < 250; round++) {
            FuneralUmbrellas x = Check.of(Towns.text(random));
            Towns.stir(x, random);
            String before = Check.all(x);
            compare(x, random);
            Check.due("all stays", Check.all(x).equals(before), true);
        }
    }

    private static void compare(FuneralUmbrellas x, Random random) {
        if (x.count(3) > 0) {
            int u = random.nextInt(x.count(3));
            int k = 1 + random.nextInt(4);
            Naive naive = new Naive(x);
            Check.due("toldOf", x.toldOf(u, k), naive.toldOf(u, k));
            for (int i = 0; i < 5; i++) {
                Check.due("toldAt(" + i + ")", x.toldAt(i), i < k ? naive.best[i] : -1);
            }
        }
        int before = x.covering();
        int cover = new Naive(x).cover();
        Check.due("cover", x.cover(), cover < 0 ? -1 : cover / 64);
        Check.due("covering", x.covering(), cover < 0 ? before : cover % 64);
        Naive hider = new Naive(x);
        Check.due("hiding", x.hiding(), hider.hide());
        for (int p = 0; p < hider.persons; p++) {
            Check.due("hidden", x.hidden(p), hider.at[p]);
        }
        for (int i = 0; i < 6 && x.count(3) > 0 && x.count(1) > 0; i++) {
            int u = random.nextInt(x.count(3));
            int p = random.nextInt(x.count(1));
            int n = 1 + random.nextInt(x.count(0) > 3 ? 4 : 6);
            if (x.umbrella(u, 1) != p) {
                Naive player = new Naive(x);
                Check.due("turns", x.turns(u, p, n), player.turns(u, p, n));
                Check.due("turn", x.turn(), player.best[0]);
            }
        }
    }
}
