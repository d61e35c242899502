import java.nio.charset.StandardCharsets;

/** The edges of what is reckoned: part 3 of the document, promises 20 to 35. */
final class EdgePlanTest {
    private static final int[] FAR_OFF = {Integer.MIN_VALUE, Integer.MIN_VALUE + 1, -1000, -2, -1, 100, 1000, 65536,
        Integer.MAX_VALUE - 1, Integer.MAX_VALUE};
    private static final int[] SEEDS = {Integer.MIN_VALUE, Integer.MIN_VALUE + 1, -12345, -2, -1, 0, 1, 2, 255, 256, 12345,
        1103515245, -1103515245, Integer.MAX_VALUE - 1, Integer.MAX_VALUE};
    private static final String TOWN = "place a;place b;place c;person p a heeds;person q b;person r b;sorrow p 4 3;"
            + "sorrow q 2 7;sorrow p 199 20;sorrow r 12 1;brolly u a 2;brolly w b 0;brolly z c 11;";
    private static final String SEVEN = "place l;person a l;person b l;person c l;person d l;person e l;person f l;person g l;";

    public static void main(String[] args) {
        promise20();
        meantOfNobody();
        promises21And22();
        promise23();
        promise24();
        likeSettings();
        promise25();
        promise26();
        promise27();
        promise28();
        promise29();
        promise30();
        promise31();
        promise32();
        promise33();
        promise34();
        seeds();
        promise35();
        Check.finish("EdgePlanTest");
    }

    private static void days(FuneralUmbrellas x, int n) {
        for (int left = n; left > 0; left -= 60) {
            x.days(Math.min(left, 60));
        }
    }

    private static int[] repeated(int times, int... bytes) {
        int[] all = new int[times * bytes.length];
        for (int i = 0; i < all.length; i++) {
            all[i] = bytes[i % bytes.length];
        }
        return all;
    }

    // ---- sightings

    private static void dueMeant(FuneralUmbrellas x, int due, int... bytes) {
        Check.feed(x, bytes);
        Check.due("meant() of " + bytes.length + " bytes", x.meant(), due);
        Check.due("the tape is empty", x.count(5), 0);
    }

    private static void promise20() {
        FuneralUmbrellas x = Check.of(SEVEN);
        dueMeant(x, -1);
        for (int pairs = 1; pairs <= 10; pairs++) {
            dueMeant(x, pairs <= 8 ? 64 : -1, repeated(pairs, 64, 1));
        }
        for (int bytes = 1; bytes <= 21; bytes += 2) {
            dueMeant(x, -1, repeated(bytes, 1));
        }
        dueMeant(x, -1, repeated(470, 1, 1));
        for (int answer = 0; answer < 256; answer++) {
            dueMeant(x, answer <= 1 ? 64 : -1, 2, answer);
        }
        for (int persons = 0; persons < 256; persons++) {
            int without = persons > 127 ? 0 : 1 << (7 - Integer.bitCount(persons));
            dueMeant(x, persons > 127 ? -1 : without, persons, 0);
            dueMeant(x, persons > 127 ? -1 : 128 - without, persons, 1);
        }
        // what is not as told in the last pair alone
        dueMeant(x, -1, 1, 1, 1, 1, 128, 1);
        dueMeant(x, -1, 1, 1, 1, 1, 1, 2);
        dueMeant(x, 128, 0, 0);
        dueMeant(x, 0, 0, 1);
        dueMeant(x, 1, 127, 0);
        dueMeant(x, 127, 127, 1);
        dueMeant(x, 0, 127, 0, 64, 1);
        dueMeant(x, 1, 1, 1, 2, 1, 4, 1, 8, 1, 16, 1, 32, 1, 64, 1, 127, 1);
    }

    private static void meantOfNobody() {
        FuneralUmbrellas x = new FuneralUmbrellas();
        dueMeant(x, -1);
        dueMeant(x, 0, 0, 1);
        Check.due("surely() ahead of any above 0", x.surely(), -1);
        Check.due("ask() ahead of any above 0", x.ask(), -1);
        dueMeant(x, 1, 0, 0);
        Check.due("none are in it", x.surely(), 0);
        Check.due("nobody to ask", x.ask(), -1);
        dueMeant(x, -1, 1, 0);
        dueMeant(x, -1, 1, 1);
        // who is not there may not be told, alone or with others
        FuneralUmbrellas two = Check.of("place l;person a l;person b l;");
        dueMeant(two, -1, 4, 1);
        dueMeant(two, -1, 5, 1);
        dueMeant(two, 2, 2, 1);
    }

    private static void promises21And22() {
        FuneralUmbrellas x = Check.of(SEVEN);
        Check.due("surely() ahead of any", x.surely(), -1);
        Check.due("ask() ahead of any", x.ask(), -1);
        dueMeant(x, -1, 128, 1);
        Check.due("surely() ahead of any as told", x.surely(), -1);
        dueMeant(x, 1, 127, 0);
        Check.due("nobody is in it", x.surely(), 0);
        Check.due("all are alike: the first", x.ask(), 0);
        dueMeant(x, 64, 1, 1);
        Check.due("a for sure", x.surely(), 1);
        Check.due("b is in as many as not", x.ask(), 1);
        dueMeant(x, 127, 127, 1);
        Check.due("none for sure", x.surely(), 0);
        Check.due("64 with, 63 without each", x.ask(), 0);
        dueMeant(x, 3, 3, 1, 124, 0);
        Check.due("a in 2 of 3, as b", x.ask(), 0);
        dueMeant(x, 6, 96, 1, 14, 0, 1, 0);
        Check.due("e in 3 of 6", x.ask(), 4);
        dueMeant(x, 0, 1, 1, 1, 0);
        Check.due("a meant() of 0 leaves it", x.ask() * 1000 + x.surely(), 4000);
        dueMeant(x, -1, 1, 7);
        Check.due("a meant() of NONE leaves it", x.ask() * 1000 + x.surely(), 4000);
        x.image(0);
        Check.town(x, "place l;");
        Check.due("a new town leaves it", x.ask() * 1000 + x.surely(), 4000);
        dueMeant(x, 1, 0, 0);
        Check.due("there were no persons", x.ask(), -1);
        x.restore(0);
        Check.due("as it was then", x.ask(), -1);
    }

    private static void dueFar(int due, int... bytes) {
        FuneralUmbrellas x = Check.of("far 3;");
        Check.feed(x, bytes);
        Check.due("far() of " + bytes.length + " bytes", x.far(), due);
        Check.due("the tape is empty", x.count(5), 0);
        Check.due("the town's own stays", x.count(4), 3);
    }

    private static void promise23() {
        dueFar(-1);
        for (int triples = 1; triples <= 8; triples++) {
            dueFar(triples <= 6 ? 62 : -1, repeated(triples, 1, 1, 1));
        }
        for (int bytes = 1; bytes <= 20; bytes++) {
            if (bytes % 3 != 0) {
                dueFar(-1, repeated(bytes, 1));
            }
        }
        for (int funerals = 0; funerals < 256; funerals++) {
            dueFar(funerals == 0 ? 0 : funerals <= 11 ? 62 : -1, funerals, 1, 1);
        }
        for (int ahead = 0; ahead < 256; ahead++) {
            boolean told = ahead >= 1 && ahead <= 199;
            int opened = 0;
            for (int far = 1; far <= 5; far++) {
                opened |= 11 * far >= ahead ? 1 << far : 0;
            }
            dueFar(told ? opened : -1, 11, ahead, 1);
            dueFar(told ? 62 - opened : -1, 11, ahead, 0);
        }
        for (int answer = 2; answer < 256; answer++) {
            dueFar(-1, 1, 1, answer);
        }
        // what is not as told in the last triple alone
        dueFar(-1, 1, 1, 1, 12, 1, 1);
        dueFar(-1, 1, 1, 1, 1, 0, 1);
        dueFar(-1, 1, 1, 1, 1, 200, 1);
        dueFar(-1, 1, 1, 1, 1, 1, 2);
        // also if none can be by those ahead of it
        dueFar(-1, 0, 1, 1, 1, 1, 2);
        dueFar(2, 1, 1, 1, 1, 2, 0);
        dueFar(32, 1, 5, 1, 1, 6, 0);
        dueFar(0, 1, 6, 1);
        dueFar(62, 0, 199, 0);
        dueFar(0, 1, 2, 1, 1, 1, 0);
    }

    // ---- told of

    private static void promise24() {
        FuneralUmbrellas x = Check.of(TOWN);
        for (int wrong : FAR_OFF) {
            Check.due("toldOf(" + wrong + ", 1)", x.toldOf(wrong, 1), -1);
            Check.due("toldOf(0, " + wrong + ")", x.toldOf(0, wrong), -1);
        }
        Check.due("toldOf(3, 1)", x.toldOf(3, 1), -1);
        Check.due("toldOf(0, 0)", x.toldOf(0, 0), -1);
        Check.due("toldOf(0, 5)", x.toldOf(0, 5), -1);
        Check.due("toldOf(2, 1)", x.toldOf(2, 1), 3);
        Check.due("toldOf(2, 4)", x.toldOf(2, 4), 3);
        Check.due("toldOf() of an empty town", new FuneralUmbrellas().toldOf(0, 1), -1);
        days(x, 196);
        Check.due("day 196, four days are left", x.toldOf(0, 4), 0);
        x.days(1);
        Check.due("day 197, three", x.toldOf(0, 4), -1);
        Check.due("day 197, three", x.toldOf(0, 3), 0);
        x.days(2);
        Check.due("day 199, one", x.toldOf(0, 2), -1);
        Check.due("day 199, one", x.toldOf(0, 1), 0);
        x.days(1);
        for (int k = 0; k <= 5; k++) {
            Check.due("day 200, none", x.toldOf(0, k), -1);
        }
        // the last day of which one can be told
        FuneralUmbrellas last = Check.of("place a;place b;person p b heeds;sorrow p 199 20;brolly u a 1;far 1;");
        days(last, 195);
        Check.due("day 195: four days on", last.toldOf(0, 3), 0);
        Check.due("day 195: the fourth is 198", last.toldOf(0, 4), 20);
        Check.due("it is there ahead of the fourth", last.toldAt(0) * 1000 + last.toldAt(2) * 10 + last.toldAt(3), 1);
        last.days(3);
        Check.due("day 198", last.toldOf(0, 1), 20);
        Check.due("then there", last.toldAt(0), 1);
        last.days(1);
        Check.due("day 199", last.toldOf(0, 1), 0);
    }

    private static void likeSettings() {
        // p in b, q in c; each can be told in either of two days: the least place first
        FuneralUmbrellas x = Check.of("place a;place b;place c;person p c heeds;person q b heeds;sorrow p 9 5;sorrow q 9 5;"
                + "brolly u a 9;");
        Check.due("one day", x.toldOf(0, 1), 5);
        Check.due("the least place", x.toldAt(0), 1);
        Check.due("two days", x.toldOf(0, 2), 10);
        Check.due("b, then c", x.toldAt(0) * 10 + x.toldAt(1), 12);
        Check.due("four days", x.toldOf(0, 4), 10);
        Check.due("a, a, b, c", x.toldAt(0) * 1000 + x.toldAt(1) * 100 + x.toldAt(2) * 10 + x.toldAt(3), 12);
        x.take(1, 0);
        Check.due("all stays", x.umbrella(0, 1) * 10 + x.umbrella(0, 0), -10);
        // five places and four days: the last setting of all, and one in which each day has another place
        String five = "place a;place b;place c;place d;place e;";
        FuneralUmbrellas last = Check.of(five + "person p e heeds;sorrow p 1 1;sorrow p 2 1;sorrow p 3 1;sorrow p 4 1;"
                + "brolly u a 1;far 1;");
        Check.due("each day there", last.toldOf(0, 4), 4);
        for (int k = 0; k < 4; k++) {
            Check.due("the last place", last.toldAt(k), 4);
        }
        FuneralUmbrellas down = Check.of(five + "person p b heeds;person q c heeds;person r d heeds;person s e heeds;"
                + "sorrow p 4 1;sorrow q 3 1;sorrow r 2 1;sorrow s 1 1;brolly u a 4;far 1;");
        Check.due("one a day", down.toldOf(0, 4), 4);
        Check.due("the other two first", down.toldOf(0, 2) * 100 + down.toldAt(0) * 10 + down.toldAt(1), 212);
        down.toldOf(0, 4);
        for (int k = 0; k < 4; k++) {
            Check.due("e, d, c, b", down.toldAt(k), 4 - k);
        }
        // carried: it is taken from him for it, and all stays
        FuneralUmbrellas carried = Check.of("place a;place b;person p a heeds;person q b heeds;sorrow p 1 5;sorrow q 2 6;brolly u a 1;");
        carried.take(0, 0);
        Check.due("both", carried.toldOf(0, 2), 11);
        Check.due("a, then b", carried.toldAt(0) * 10 + carried.toldAt(1), 1);
        Check.due("he carries it still", carried.umbrella(0, 1), 0);
        Check.due("none is spared", carried.now(5), 0);
        // another one may warn, too, and a sorrow of the past is not spared more
        FuneralUmbrellas other = Check.of("place a;place b;person p a heeds;sorrow p 1 5;sorrow p 3 2;brolly u b 0;brolly w a 12;");
        Check.due("by the other one", other.toldOf(0, 1), 7);
        other.days(1);
        Check.due("no more", other.toldOf(0, 4), 0);
    }

    private static void promise25() {
        FuneralUmbrellas x = Check.of(TOWN);
        Check.due("ahead of any", x.toldAt(0), -1);
        x.toldOf(9, 1);
        x.toldOf(0, 5);
        Check.due("ahead of any that was not NONE", x.toldAt(0), -1);
        for (int k = 1; k <= 4; k++) {
            x.toldOf(0, k);
            for (int at = -1; at <= 5; at++) {
                Check.due("toldAt(" + at + ") of " + k, x.toldAt(at), at >= 0 && at < k ? 0 : -1);
            }
            for (int wrong : FAR_OFF) {
                Check.due("toldAt(" + wrong + ")", x.toldAt(wrong), -1);
            }
        }
        x.toldOf(0, 2);
        x.toldOf(0, 0);
        x.toldOf(0, 5);
        x.toldOf(-1, 3);
        Check.due("the latest that was not NONE", x.toldAt(1) * 10 + x.toldAt(2), -1);
        Check.town(x, "place a;");
        x.toldOf(0, 1);
        Check.due("also behind a new town", x.toldAt(1) * 10 + x.toldAt(2), -1);
    }

    // ---- cover

    private static void promise26() {
        Check.due("an empty town", new FuneralUmbrellas().cover(), 0);
        Check.due("nobody has sorrows", Check.of("place a;person p a;brolly u a 1;").cover(), 0);
        Check.due("no umbrellas", Check.of("place a;person p a;sorrow p 1 1;").cover(), -1);
        Check.due("one without reach", Check.of("place a;person p a;sorrow p 1 1;brolly u a 0;").cover(), -1);
        String town = "place a;place b;place c;person p a;person q b;person r b;sorrow p 10 1;sorrow q 4 1;sorrow r 6 1;"
                + "brolly u c 2;brolly v c 3;brolly w c 5;brolly x c 12;";
        FuneralUmbrellas x = Check.of(town);
        Check.due("two places", x.cover(), 2);
        Check.due("v and w, not u (4 days) nor x", x.covering(), 6);
        x.days(1);
        Check.due("9 and 5 days", x.cover() * 100 + x.covering(), 206);
        x.days(1);
        Check.due("8 and 4 days", x.cover() * 100 + x.covering(), 205);
        x.days(3);
        Check.due("5 and 1 days", x.cover() * 100 + x.covering(), 203);
        x.days(1);
        Check.due("p alone, 4 days", x.cover() * 100 + x.covering(), 101);
        x.days(4);
        Check.due("nobody", x.cover() * 100 + x.covering(), 0);
        FuneralUmbrellas one = Check.of(town);
        one.go(0, 1);
        Check.due("all in a place: the farthest", one.cover() * 100 + one.covering(), 104);
        one.days(3);
        Check.due("7 days", one.cover() * 100 + one.covering(), 104);
        one.days(1);
        Check.due("6 days", one.cover() * 100 + one.covering(), 102);
        // carried ones, too
        FuneralUmbrellas carried = Check.of("place a;place b;person p a;person q b;sorrow p 2 1;brolly u b 1;");
        carried.take(1, 0);
        Check.due("it is carried elsewhere", carried.cover() * 100 + carried.covering(), 101);
        Check.due("and stays there", carried.umbrella(0, 0), 1);
        // five places, each with one who needs one
        String five = "place a;place b;place c;place d;place e;person p a;person q b;person r c;person s d;person t e;"
                + "sorrow p 1 1;sorrow q 2 1;sorrow r 3 1;sorrow s 4 1;sorrow t 5 1;far 1;";
        String six = "brolly u a 12;brolly v a 1;brolly w a 2;brolly x a 3;brolly y a 4;";
        Check.due("each by one", Check.of(five + six).cover(), 5);
        Check.due("none for the last", Check.of(five + six.replace("12", "4")).cover(), -1);
        FuneralUmbrellas sixth = Check.of(five + "brolly tz a 5;" + six);
        Check.due("of six the least as bits", sixth.cover() * 100 + sixth.covering(), 531);
    }

    private static void promise27() {
        FuneralUmbrellas x = Check.of("place a;person p a;sorrow p 9 1;brolly u a 1;brolly w a 3;");
        Check.due("ahead of any", x.covering(), -1);
        Check.due("nine days are too far", x.cover(), -1);
        Check.due("ahead of any that was not NONE", x.covering(), -1);
        x.days(3);
        Check.due("six days", x.cover(), 1);
        Check.due("the second", x.covering(), 2);
        x.undo();
        Check.due("nine days", x.cover(), -1);
        Check.due("the latest that was not NONE", x.covering(), 2);
        Check.town(x, "");
        Check.due("also behind a new town", x.covering(), 2);
        Check.due("of an empty one", x.cover(), 0);
        Check.due("none, which is not NONE", x.covering(), 0);
    }

    // ---- hiding

    private static void promise28() {
        Check.due("an empty town", new FuneralUmbrellas().hiding(), 1);
        FuneralUmbrellas x = Check.of("place a;place b;person p b;sorrow p 2 1;brolly u b 1;");
        Check.due("he goes in the first, nobody in the second", x.hiding(), 2);
        Check.due("to the least place", x.hidden(0), 0);
        Check.due("all stays", x.person(0, 0), 1);
        x.take(0, 0);
        Check.due("he carries one", x.hiding(), 1);
        Check.due("he stays", x.hidden(0), 1);
        FuneralUmbrellas heeds = Check.of("place a;place b;person p b heeds;sorrow p 2 1;brolly u b 1;");
        Check.due("he heeds", heeds.hiding(), 1);
        FuneralUmbrellas far = Check.of("place a;place b;person p b;sorrow p 3 1;brolly u b 1;");
        Check.due("none opens for him yet", far.hiding(), 1);
        FuneralUmbrellas none = Check.of("place a;place b;person p b;sorrow p 2 1;brolly u b 1;brolly w a 12;");
        Check.due("one opens everywhere", none.hiding(), 1);
        Check.due("he stays", none.hidden(0), 1);
        FuneralUmbrellas open = Check.of("place a;place b;person p b;sorrow p 25 1;brolly u b 12;brolly w a 12;");
        open.days(1);
        open.go(0, 0);
        Check.due("24 days ahead, open in both", open.hiding(), 1);
        open.undo();
        open.undo();
        Check.due("25 days ahead, open for nobody", open.hiding(), 1);
        // an open one that does not open for him is no reason to go, nor one to stay away
        FuneralUmbrellas shy = Check.of("place a;place b;place c;person p b;person q a;sorrow p 9 1;sorrow q 1 1;brolly u b 5;"
                + "brolly w a 1;far 2;");
        Check.due("he goes where one opens for another", shy.hiding(), 2);
        Check.due("there", shy.hidden(0), 0);
        Check.due("that one goes, too", shy.hidden(1), 2);
    }

    private static void promise29() {
        FuneralUmbrellas x = Check.of("place a;place b;person p b;person q a;sorrow p 2 1;brolly u b 1;");
        Check.due("ahead of any", x.hidden(0), -1);
        x.hiding();
        Check.due("hidden(0)", x.hidden(0), 0);
        Check.due("hidden(1)", x.hidden(1), 0);
        Check.due("hidden(2)", x.hidden(2), -1);
        Check.due("hidden(6)", x.hidden(6), -1);
        Check.due("hidden(7)", x.hidden(7), -1);
        for (int wrong : FAR_OFF) {
            Check.due("hidden(" + wrong + ")", x.hidden(wrong), -1);
        }
        x.go(1, 1);
        Check.due("by the latest hiding()", x.hidden(1), 0);
        x.hiding();
        Check.due("by the one since", x.hidden(1), 1);
        FuneralUmbrellas seven = Check.of(SEVEN);
        seven.hiding();
        Check.due("the seventh", seven.hidden(6), 0);
        Check.due("an eighth", seven.hidden(7), -1);
    }

    // ---- turns

    private static void promise30() {
        FuneralUmbrellas x = Check.of(TOWN);
        for (int wrong : FAR_OFF) {
            Check.due("turns(" + wrong + ", 0, 1)", x.turns(wrong, 0, 1), -1);
            Check.due("turns(0, " + wrong + ", 1)", x.turns(0, wrong, 1), -1);
            Check.due("turns(0, 0, " + wrong + ")", x.turns(0, 0, wrong), -1);
        }
        Check.due("turns(3, 0, 1)", x.turns(3, 0, 1), -1);
        Check.due("turns(0, 3, 1)", x.turns(0, 3, 1), -1);
        Check.due("turns(0, 0, 0)", x.turns(0, 0, 0), -1);
        Check.due("turns(0, 0, 7)", x.turns(0, 0, 7), -1);
        Check.due("turns() of an empty town", new FuneralUmbrellas().turns(0, 0, 1), -1);
        // alone in three places: whoever moves last has it
        FuneralUmbrellas two = Check.of("place a;place b;place c;person p c;sorrow p 2 1;brolly u b 1;");
        for (int n = 1; n <= 6; n++) {
            Check.due("turns(0, 0, " + n + ")", two.turns(0, 0, n), n % 2);
        }
        two.take(0, 0);
        Check.due("it is not where he is", two.umbrella(0, 1), -1);
        two.go(0, 1);
        two.take(0, 0);
        Check.due("he carries it", two.turns(0, 0, 1), -1);
        two.leave(0, 0);
        Check.due("no more", two.turns(0, 0, 1), 1);
        FuneralUmbrellas full = Check.of("place a;place b;person p b;brolly u a 12;brolly w a 11;");
        for (int n = 1; n <= 6; n++) {
            Check.due("12 funerals", full.turns(0, 0, n), 1);
            Check.due("11 funerals, nobody will be sorry", full.turns(1, 0, n), 0);
        }
        FuneralUmbrellas one = Check.of("place a;person p a;sorrow p 2 1;brolly u a 1;");
        for (int n = 1; n <= 6; n++) {
            Check.due("one place", one.turns(0, 0, n), 1);
        }
        one.days(2);
        for (int n = 1; n <= 6; n++) {
            Check.due("that day is past", one.turns(0, 0, n), 0);
        }
        // it is open for another one, too, who stays
        FuneralUmbrellas other = Check.of("place a;place b;person p a;person q b;sorrow q 2 1;brolly u a 1;");
        for (int n = 1; n <= 6; n++) {
            Check.due("for q", other.turns(0, 0, n), 1);
        }
        other.take(0, 0);
        Check.due("carried by p, moved against q", other.turns(0, 1, 2), 0);
        Check.due("carried by p", other.turns(0, 0, 2), -1);
        Check.due("all stays", other.umbrella(0, 1) * 10 + other.person(1, 0), 1);
    }

    private static void promise31() {
        FuneralUmbrellas x = Check.of("place a;place b;place c;person p c;person q a;sorrow p 2 1;sorrow q 2 1;brolly u b 1;");
        Check.due("ahead of any", x.turn(), -1);
        x.turns(0, 9, 1);
        x.turns(0, 0, 7);
        Check.due("ahead of any that was not NONE", x.turn(), -1);
        x.turns(0, 0, 1);
        Check.due("of two that are like the least place", x.turn(), 0);
        x.turns(0, 1, 1);
        Check.due("for p it is the same", x.turn(), 0);
        x.turns(0, 0, 2);
        Check.due("where q is", x.turn(), 0);
        x.turns(0, 1, 2);
        Check.due("where p is", x.turn(), 2);
        x.turns(0, 0, 3);
        Check.due("all are like: to stay", x.turn(), 1);
        FuneralUmbrellas first = Check.of("place a;place b;place c;person p c;sorrow p 2 1;brolly u a 1;");
        for (int n = 2; n <= 6; n++) {
            first.turns(0, 0, n);
            Check.due("all are like: to stay in the first", first.turn(), 0);
        }
        x.turns(0, 2, 1);
        x.turns(3, 0, 1);
        Check.due("the latest that was not NONE", x.turn(), 1);
        x.take(0, 0);
        x.go(0, 1);
        x.turns(0, 0, 1);
        Check.due("he is there: to stay", x.turn(), 1);
        x.days(2);
        Check.due("it can't be", x.turns(0, 0, 4), 0);
        Check.due("all are like: to stay", x.turn(), 1);
    }

    // ---- tags

    private static void promise32() {
        FuneralUmbrellas x = Check.of("place a;place abcdefg;person b a;person hijklmn a;brolly u a 0;brolly opqrstu abcdefg 12;");
        for (int wrong : FAR_OFF) {
            Check.due("tag(" + wrong + ")", x.tag(wrong), -1);
        }
        Check.due("tag(2)", x.tag(2), -1);
        Check.due("tag() of an empty town", new FuneralUmbrellas().tag(0), -1);
        Check.due("the shortest", Check.tag(x, 0).equals("u is shut at a"), true);
        Check.due("long names", Check.tag(x, 1).equals("opqrstu is open at abcdefg"), true);
        x.go(1, 1);
        x.take(1, 1);
        Check.due("the longest", Check.tag(x, 1).equals("opqrstu is open with hijklmn"), true);
        Check.due("its bytes", x.tag(1), 28);
        x.take(0, 0);
        Check.due("with one", Check.tag(x, 0).equals("u is shut with b"), true);
    }

    private static void promise33() {
        FuneralUmbrellas x = Check.of("place a;place z;person b a;brolly u a 0;brolly w z 12;");
        Check.due("ahead of any", x.byteAt(0), -1);
        x.tag(5);
        Check.due("ahead of any that there is", x.byteAt(0), -1);
        Check.due("tag(1)", x.tag(1), 14);
        String due = "w is open at z";
        for (int i = 0; i < 14; i++) {
            Check.due("byteAt(" + i + ")", x.byteAt(i), due.charAt(i));
        }
        Check.due("byteAt(14)", x.byteAt(14), -1);
        Check.due("byteAt(27)", x.byteAt(27), -1);
        Check.due("byteAt(28)", x.byteAt(28), -1);
        for (int wrong : FAR_OFF) {
            Check.due("byteAt(" + wrong + ")", x.byteAt(wrong), -1);
        }
        x.tag(2);
        x.tag(-1);
        x.go(0, 1);
        x.take(0, 1);
        Check.due("the latest tag, as it was", x.byteAt(13), 'z');
        Check.due("tag(1)", x.tag(1), 16);
        Check.due("the latest", x.byteAt(15), 'b');
        x.tag(0);
        Check.due("a shorter one has no more bytes", x.byteAt(14), -1);
    }

    // ---- draws

    private static void promise34() {
        FuneralUmbrellas x = Check.of(TOWN);
        for (int wrong : FAR_OFF) {
            Check.due("drawn(" + wrong + ", 1)", x.drawn(wrong, 1), -1);
        }
        Check.due("drawn(0, 1)", x.drawn(0, 1), -1);
        Check.due("drawn(61, 1)", x.drawn(61, 1), -1);
        Check.due("nothing to undo", x.undo(), -1);
        Check.due("drawn(1, 1)", x.drawn(1, 1), 1);
        Check.due("drawn(60, 1)", x.drawn(60, 1), 60);
        days(x, 138);
        Check.due("day 199", x.now(0), 199);
        Check.due("drawn(60, 1), one is left", x.drawn(60, 1), 1);
        String last = Check.all(x);
        Check.due("drawn(60, 1), none is left", x.drawn(60, 1), 0);
        Check.due("then all stays", Check.all(x).equals(last), true);
        Check.due("drawn(61, 1) then", x.drawn(61, 1), -1);
        Check.due("no persons", Check.of("place a;brolly u a 1;").drawn(1, 1), -1);
        Check.due("an empty town", new FuneralUmbrellas().drawn(1, 1), -1);
        FuneralUmbrellas none = Check.of("place a;person p a;");
        Check.due("no umbrellas", none.drawn(60, 7), 60);
        Check.due("no funerals then", none.now(7), 0);
    }

    /** The model draws as the document says; the class must have drawn the same at each seed. */
    private static void seeds() {
        String[] towns = {TOWN, "place a;person p a;", "place a;place b;person p a;person q a;brolly u a 1;", "place a;place b;person p a;person q b heeds;sorrow q 9 9;sorrow p 20 2;",
            TOWN + "place d;place e;person s e;brolly y d 10;far 5;"};
        for (String town : towns) {
            for (int seed : SEEDS) {
                FuneralUmbrellas x = Check.of(town);
                Model m = modelOf(town);
                for (int n : new int[] {1, 2, 30, 60}) {
                    Check.due("drawn(" + n + ", " + seed + ")", x.drawn(n, seed), m.drawn(n, seed));
                    for (int what = 0; what < 8; what++) {
                        Check.due("now(" + what + ")", x.now(what), m.now(what));
                    }
                    for (int p = 0; p < x.count(1); p++) {
                        Check.due("where he is", x.person(p, 0), m.person(p, 0));
                        Check.due("what he carries", x.person(p, 4), m.person(p, 4));
                    }
                    for (int u = 0; u < x.count(3); u++) {
                        Check.due("where it is", x.umbrella(u, 0), m.umbrella(u, 0));
                        Check.due("its funerals", x.umbrella(u, 2), m.umbrella(u, 2));
                    }
                }
            }
        }
    }

    private static Model modelOf(String town) {
        Model m = new Model();
        byte[] bytes = town.getBytes(StandardCharsets.ISO_8859_1);
        for (int i = 0; i < bytes.length; i += 20) {
            int[] n = new int[5];
            for (int k = 0; k < 20 && i + k < bytes.length; k++) {
                n[k / 4] |= bytes[i + k] << (24 - 8 * (k % 4));
            }
            m.feed(n);
        }
        m.end(bytes.length);
        m.town();
        return m;
    }

    private static void promise35() {
        FuneralUmbrellas x = Check.of(TOWN);
        for (int wrong : FAR_OFF) {
            Check.due("odds(" + wrong + ", 1, 1)", x.odds(wrong, 1, 1), -1);
            Check.due("odds(0, " + wrong + ", 1)", x.odds(0, wrong, 1), -1);
        }
        Check.due("odds(3, 1, 1)", x.odds(3, 1, 1), -1);
        Check.due("odds(0, 0, 1)", x.odds(0, 0, 1), -1);
        Check.due("odds(0, 31, 1)", x.odds(0, 31, 1), -1);
        Check.due("odds() of an empty town", new FuneralUmbrellas().odds(0, 1, 1), -1);
        Check.due("q can't be spared", x.odds(1, 30, 1), 30);
        Check.due("odds(1, 1, 1)", x.odds(1, 1, 1), 1);
        Model m = modelOf(TOWN);
        String before = Check.all(x);
        for (int seed : SEEDS) {
            Check.due("odds(0, 30, " + seed + ")", x.odds(0, 30, seed), m.odds(0, 30, seed));
            int sum = 0;
            for (int i = 0; i < 6; i++) {
                sum += x.odds(0, 1, seed + i);
            }
            Check.due("x, x and 1, .. wrapping", x.odds(0, 6, seed), sum);
        }
        Check.due("all stays", Check.all(x).equals(before), true);
        FuneralUmbrellas last = Check.of("place a;person p a;sorrow p 199 1;");
        days(last, 168);
        Check.due("31 days on", last.odds(0, 30, 5), 0);
        last.days(1);
        Check.due("30 days on", last.odds(0, 30, 5), 30);
        last.days(29);
        Check.due("the day before, two days are left", last.odds(0, 30, 5), 30);
        last.days(1);
        Check.due("that day is past", last.odds(0, 30, 5), 0);
        last.days(1);
        Check.due("all days are over", last.odds(0, 30, 5), 0);
    }
}
