/** The edges of a town and of what is done in it: part 2 of the document, promises 6 to 19 and 42. */
final class EdgeTownTest {
    private static final int[] FAR_OFF = {Integer.MIN_VALUE, Integer.MIN_VALUE + 1, -1000, -2, -1, 100, 1000, 65536,
        Integer.MAX_VALUE - 1, Integer.MAX_VALUE};
    private static final String TOWN = "place a;place b;place c;person p a heeds;person q b;person r b;sorrow p 4 3;"
            + "sorrow q 2 7;sorrow p 199 20;sorrow r 12 1;brolly u a 2;brolly w b 0;brolly z c 11;";

    public static void main(String[] args) {
        promise06();
        promise07();
        promise08();
        promise09();
        promise10();
        reach();
        opens();
        twelveFunerals();
        promise11();
        promise12();
        promise13();
        promise14();
        promise15();
        lastDays();
        spared();
        alone();
        promise16();
        eightAreKept();
        refusedIsNotKept();
        promise17();
        promise18();
        promise19();
        promise42();
        thrownChangesNothing();
        Check.finish("EdgeTownTest");
    }

    private static void days(FuneralUmbrellas x, int n) {
        for (int left = n; left > 0; left -= 60) {
            x.days(Math.min(left, 60));
        }
    }

    // ---- what is so

    private static void promise06() {
        FuneralUmbrellas x = Check.of(TOWN);
        for (int wrong : FAR_OFF) {
            Check.dueThrown("person(" + wrong + ", 0)", () -> x.person(wrong, 0));
            Check.dueThrown("person(0, " + wrong + ")", () -> x.person(0, wrong));
        }
        Check.dueThrown("person(3, 0)", () -> x.person(3, 0));
        Check.dueThrown("person(2, 7)", () -> x.person(2, 7));
        Check.dueThrown("person(3, 7)", () -> x.person(3, 7));
        Check.due("person(2, 6)", x.person(2, 6), 0);
        Check.due("person(2, 0)", x.person(2, 0), 1);
        Check.due("p heeds", x.person(0, 1), 1);
        Check.due("q does not", x.person(1, 1), 0);
        FuneralUmbrellas none = new FuneralUmbrellas();
        Check.dueThrown("person(0, 0) of an empty town", () -> none.person(0, 0));
        Check.due("two sorrows ahead", x.person(0, 2), 2);
        x.take(0, 0);
        x.go(0, 2);
        x.take(0, 2);
        Check.due("he carries two", x.person(0, 4), 5);
        Check.due("both open for him", x.person(0, 5), 5);
        Check.due("alone", x.person(0, 6), 1);
        x.go(1, 2);
        Check.due("not alone", x.person(0, 6) + x.person(1, 6), 0);
        Check.due("the third is alone now", x.person(2, 6), 1);
        days(x, 200);
        Check.due("all N that he wept", x.person(0, 3), 23);
        Check.due("nothing is ahead", x.person(0, 2), 0);
    }

    private static void promise07() {
        FuneralUmbrellas x = Check.of(TOWN);
        for (int wrong : FAR_OFF) {
            Check.dueThrown("umbrella(" + wrong + ", 0)", () -> x.umbrella(wrong, 0));
            Check.dueThrown("umbrella(0, " + wrong + ")", () -> x.umbrella(0, wrong));
        }
        Check.dueThrown("umbrella(3, 0)", () -> x.umbrella(3, 0));
        Check.dueThrown("umbrella(2, 6)", () -> x.umbrella(2, 6));
        Check.due("umbrella(2, 5)", x.umbrella(2, 5), 0);
        Check.due("umbrella(2, 0)", x.umbrella(2, 0), 2);
        FuneralUmbrellas none = new FuneralUmbrellas();
        Check.dueThrown("umbrella(0, 0) of an empty town", () -> none.umbrella(0, 0));
        Check.due("nobody carries it", x.umbrella(0, 1), -1);
        Check.due("no funerals, no reach", x.umbrella(1, 2) + x.umbrella(1, 3), 0);
        Check.due("11 funerals by 2", x.umbrella(2, 3), 22);
        FuneralUmbrellas most = Check.of("place a;brolly u a 12;far 5;");
        Check.due("12 funerals by 5", most.umbrella(0, 3), 60);
        x.take(0, 0);
        x.go(0, 1);
        Check.due("where he is", x.umbrella(0, 0), 1);
        Check.due("who carries it", x.umbrella(0, 1), 0);
        Check.due("for whom it opens there", x.umbrella(0, 5), 3);
    }

    private static void promise08() {
        FuneralUmbrellas x = Check.of(TOWN);
        for (int wrong : FAR_OFF) {
            Check.dueThrown("sorrow(" + wrong + ", 0)", () -> x.sorrow(wrong, 0));
            Check.dueThrown("sorrow(0, " + wrong + ")", () -> x.sorrow(0, wrong));
        }
        Check.dueThrown("sorrow(4, 0)", () -> x.sorrow(4, 0));
        Check.dueThrown("sorrow(3, 4)", () -> x.sorrow(3, 4));
        Check.due("sorrow(3, 3)", x.sorrow(3, 3), 0);
        Check.due("sorrow(3, 0)", x.sorrow(3, 0), 2);
        Check.due("day 199", x.sorrow(2, 1), 199);
        Check.due("N 20", x.sorrow(2, 2), 20);
        FuneralUmbrellas none = Check.of("place a;person p a;");
        Check.dueThrown("sorrow(0, 0) without any", () -> none.sorrow(0, 0));
        x.days(1);
        Check.due("spared", x.sorrow(0, 3), 1);
        Check.due("ahead, the day before", x.sorrow(1, 3), 0);
        x.days(1);
        Check.due("it befell on its day", x.sorrow(1, 3), 2);
        x.go(0, 1);
        days(x, 198);
        Check.due("spared at the end, too", x.sorrow(0, 3), 1);
        Check.due("it befell", x.sorrow(2, 3), 2);
    }

    private static void promise09() {
        FuneralUmbrellas x = Check.of(TOWN);
        for (int wrong : FAR_OFF) {
            Check.due("place(" + wrong + ", 0)", x.place(wrong, 0), -1);
            Check.due("place(0, " + wrong + ")", x.place(0, wrong), -1);
        }
        Check.due("place(3, 0)", x.place(3, 0), -1);
        Check.due("place(2, 2)", x.place(2, 2), -1);
        Check.due("nobody there", x.place(2, 0), 0);
        Check.due("place(2, 1)", x.place(2, 1), 4);
        Check.due("place(0, 0) of an empty town", new FuneralUmbrellas().place(0, 0), -1);
        x.take(0, 0);
        x.go(0, 1);
        Check.due("all three", x.place(1, 0), 7);
        Check.due("carried, too", x.place(1, 1), 3);
        Check.due("none is left", x.place(0, 0) + x.place(0, 1), 0);
    }

    private static void promise10() {
        FuneralUmbrellas x = Check.of(TOWN);
        for (int wrong : FAR_OFF) {
            Check.due("now(" + wrong + ")", x.now(wrong), -1);
        }
        Check.due("now(8)", x.now(8), -1);
        int[] first = {0, 1, 0, 1, 4, 0, 0, 0};
        for (int what = 0; what < 8; what++) {
            Check.due("now(" + what + ")", x.now(what), first[what]);
        }
        x.take(1, 1);
        x.funeral(1);
        x.days(1);
        int[] then = {1, 2, 2, 2, 3, 1, 0, 1};
        for (int what = 0; what < 8; what++) {
            Check.due("then now(" + what + ")", x.now(what), then[what]);
        }
        x.go(0, 1);
        days(x, 199);
        int[] last = {200, 0, 2, 0, 0, 1, 28, 1};
        for (int what = 0; what < 8; what++) {
            Check.due("at the end now(" + what + ")", x.now(what), last[what]);
        }
        Check.due("no more days", x.days(60) * 1000 + x.now(0), 200);
    }

    // ---- what opens

    private static void reach() {
        for (int far = 1; far <= 5; far++) {
            for (int funerals = 0; funerals <= 12; funerals++) {
                for (int more = -1; more <= 1; more++) {
                    int day = funerals * far + more;
                    if (day >= 1) {
                        FuneralUmbrellas x = Check.of("place l;person p l;sorrow p " + day + " 1;brolly u l "
                                + funerals + ";far " + far + ";");
                        Check.due("it opens in REACH days at most", x.umbrella(0, 5), more <= 0 ? 1 : 0);
                        Check.due("it opens for him", x.person(0, 5), more <= 0 ? 1 : 0);
                        Check.due("open", x.umbrella(0, 4), more <= 0 || funerals == 12 ? 1 : 0);
                    }
                }
            }
        }
    }

    private static void opens() {
        FuneralUmbrellas x = Check.of("place a;place b;person p a;sorrow p 3 1;sorrow p 5 1;brolly u a 1;brolly w b 12;");
        Check.due("three days are beyond two", x.now(1), 2);
        x.days(1);
        Check.due("two are not", x.now(1), 3);
        x.days(1);
        Check.due("one is not", x.now(3), 1);
        x.days(1);
        Check.due("that day itself is past, the next is in two", x.umbrella(0, 5), 1);
        x.days(2);
        Check.due("nothing is ahead", x.now(1) * 10 + x.now(3), 20);
        FuneralUmbrellas y = Check.of("place a;place b;person p a;sorrow p 3 1;brolly u b 9;");
        Check.due("he is not where it is", y.now(1), 0);
        y.go(0, 1);
        Check.due("he is", y.now(1) * 10 + y.person(0, 5), 11);
        FuneralUmbrellas spared = Check.of("place a;person p a heeds;sorrow p 3 1;brolly u a 9;");
        Check.due("open", spared.now(1), 1);
        spared.days(1);
        Check.due("a spared one opens nothing", spared.now(1), 0);
    }

    private static void twelveFunerals() {
        FuneralUmbrellas x = Check.of("place a;brolly u a 10;brolly w a 12;");
        Check.due("12 at the beginning", x.now(1), 2);
        Check.due("funeral", x.funeral(0), 0);
        Check.due("11 are shut", x.umbrella(0, 2) * 10 + x.umbrella(0, 4), 110);
        Check.due("12 at most", x.umbrella(1, 2), 12);
        Check.due("funeral", x.funeral(0), 0);
        Check.due("12 are open", x.umbrella(0, 2) * 10 + x.umbrella(0, 4), 121);
        Check.due("for nobody", x.umbrella(0, 5), 0);
        Check.due("a funeral for full ones alone", x.funeral(0), 0);
        Check.due("12 still", x.umbrella(0, 2) + x.umbrella(1, 2), 24);
        Check.due("reach 24", x.umbrella(0, 3), 24);
        Check.due("three were held", x.now(7), 3);
        days(x, 200);
        Check.due("it never shuts again", x.now(1), 3);
        Check.due("but what is undone was not", x.undo() + x.undo() + x.undo() + x.undo(), 18);
        x.undo();
        x.undo();
        Check.due("ten funerals", x.umbrella(0, 2) * 10 + x.umbrella(0, 4), 110);
    }

    // ---- acts

    private static void promise11() {
        FuneralUmbrellas x = Check.of(TOWN);
        for (int wrong : FAR_OFF) {
            Check.due("go(" + wrong + ", 0)", x.go(wrong, 0), -1);
            Check.due("go(0, " + wrong + ")", x.go(0, wrong), -1);
        }
        Check.due("go(3, 0)", x.go(3, 0), -1);
        Check.due("go(0, 3)", x.go(0, 3), -1);
        Check.due("go(2, 1), he is there", x.go(2, 1), 1);
        Check.due("go(2, 2)", x.go(2, 2), 0);
        Check.due("go(2, 2) again", x.go(2, 2), 1);
        Check.due("go(2, 0)", x.go(2, 0), 0);
        days(x, 200);
        Check.due("go(2, 1) when all days are over", x.go(2, 1), 0);
    }

    private static void promise12() {
        FuneralUmbrellas x = Check.of(TOWN);
        for (int wrong : FAR_OFF) {
            Check.due("take(" + wrong + ", 0)", x.take(wrong, 0), -1);
            Check.due("take(0, " + wrong + ")", x.take(0, wrong), -1);
        }
        Check.due("take(3, 0)", x.take(3, 0), -1);
        Check.due("take(0, 3)", x.take(0, 3), -1);
        Check.due("it is not where he is", x.take(0, 2), 1);
        Check.due("take(1, 1)", x.take(1, 1), 0);
        Check.due("another one carries it", x.take(2, 1), 2);
        Check.due("he carries it", x.take(1, 1), 2);
        Check.due("carried elsewhere: the least", x.take(0, 1), 1);
        x.go(1, 0);
        Check.due("carried here", x.take(0, 1), 2);
        Check.due("where it was it is no more", x.take(2, 1), 1);
        Check.due("a second one", x.take(1, 0), 0);
        Check.due("he carries both", x.person(1, 4), 3);
    }

    private static void promise13() {
        FuneralUmbrellas x = Check.of(TOWN);
        for (int wrong : FAR_OFF) {
            Check.due("leave(" + wrong + ", 0)", x.leave(wrong, 0), -1);
            Check.due("leave(0, " + wrong + ")", x.leave(0, wrong), -1);
        }
        Check.due("leave(3, 0)", x.leave(3, 0), -1);
        Check.due("leave(0, 3)", x.leave(0, 3), -1);
        Check.due("nobody carries it", x.leave(0, 0), 1);
        x.take(0, 0);
        Check.due("another one carries it", x.leave(1, 0), 1);
        x.go(0, 2);
        Check.due("leave(0, 0)", x.leave(0, 0), 0);
        Check.due("in his place", x.umbrella(0, 0) * 10 + x.umbrella(0, 1), 19);
        Check.due("leave(0, 0) again", x.leave(0, 0), 1);
        Check.due("and taken again", x.take(0, 0), 0);
    }

    private static void promise14() {
        FuneralUmbrellas x = Check.of(TOWN);
        for (int wrong : FAR_OFF) {
            Check.due("funeral(" + wrong + ")", x.funeral(wrong), -1);
        }
        Check.due("funeral(3)", x.funeral(3), -1);
        x.take(0, 0);
        x.go(0, 1);
        Check.due("no umbrella is there", x.funeral(0), 1);
        Check.due("none was held", x.now(7), 0);
        Check.due("carried or not", x.funeral(1), 0);
        Check.due("one more each", x.umbrella(0, 2) * 100 + x.umbrella(1, 2) * 10 + x.umbrella(2, 2), 321);
        Check.due("one was held", x.now(7), 1);
        FuneralUmbrellas none = Check.of("place a;");
        Check.due("funeral(0) without umbrellas", none.funeral(0), 1);
        Check.due("funeral(1)", none.funeral(1), -1);
    }

    private static void promise15() {
        FuneralUmbrellas x = Check.of(TOWN);
        for (int wrong : FAR_OFF) {
            Check.due("days(" + wrong + ")", x.days(wrong), -1);
        }
        Check.due("days(0)", x.days(0), -1);
        Check.due("days(61)", x.days(61), -1);
        Check.due("no day went", x.now(0), 0);
        Check.due("nothing to undo", x.undo(), -1);
        Check.due("days(1)", x.days(1), 1);
        Check.due("days(60)", x.days(60), 60);
        Check.due("day 61", x.now(0), 61);
        days(x, 120);
        Check.due("days(18)", x.days(18), 18);
        Check.due("day 199", x.now(0), 199);
        Check.due("days(61) then, too", x.days(61), -1);
        Check.due("days(60) with one left", x.days(60), 1);
        Check.due("day 200", x.now(0), 200);
        Check.due("days(1) with none left", x.days(1), 0);
        Check.due("days(60) with none left", x.days(60), 0);
        Check.due("days(0) with none left", x.days(0), -1);
        Check.due("day 200 still", x.now(0), 200);
    }

    private static void lastDays() {
        FuneralUmbrellas x = Check.of("place a;person p a heeds;person q a;sorrow q 1 5;sorrow p 199 9;brolly u a 1;far 1;");
        Check.due("a sorrow of day 1 is ahead on day 0", x.sorrow(0, 3), 0);
        x.days(1);
        Check.due("it befell", x.person(1, 3), 5);
        days(x, 197);
        Check.due("day 198", x.now(0), 198);
        Check.due("the last is ahead", x.now(4) * 10 + x.now(3), 11);
        x.days(1);
        Check.due("day 199: it befell", x.person(0, 3), 9);
        x.undo();
        x.go(0, 0);
        Check.town(x, "place a;person p a heeds;sorrow p 199 9;brolly u a 1;far 1;");
        days(x, 198);
        Check.due("none is spared yet", x.now(5), 0);
        x.days(1);
        Check.due("spared on the last day that can be", x.now(5) * 10 + x.now(6), 10);
        x.days(1);
        Check.due("day 200 brings nothing", x.now(5) * 10 + x.now(6), 10);
    }

    private static void spared() {
        // heeds, alone, and two umbrellas: all within the greater reach, none beyond
        String town = "place a;place b;person p a heeds;sorrow p 1 1;sorrow p 4 1;sorrow p 5 1;brolly u a 2;brolly w a 1;";
        FuneralUmbrellas x = Check.of(town);
        x.days(1);
        Check.due("in 1 and 4 days", x.now(5) * 10 + x.now(4), 21);
        Check.due("none befell", x.now(6), 0);
        x.days(1);
        Check.due("all three", x.now(5) * 10 + x.now(4), 30);
        x = Check.of(town.replace(" heeds", ""));
        x.days(5);
        Check.due("he does not heed", x.now(5) * 10 + x.now(6), 3);
        x = Check.of(town);
        x.go(0, 1);
        x.days(5);
        Check.due("none is where he is", x.now(5) * 10 + x.now(6), 3);
        x = Check.of("place a;person p a heeds;sorrow p 20 1;brolly w a 12;far 1;");
        x.days(7);
        Check.due("an open one that does not open for him", x.now(5), 0);
        x.days(1);
        Check.due("day 8 is 12 ahead", x.now(5), 0);
        x.days(1);
        Check.due("it warned on day 8", x.now(5), 1);
        x = Check.of("place a;person p a heeds;sorrow p 1 4;sorrow p 1 5;brolly w a 1;far 1;");
        x.days(1);
        Check.due("both of one day", x.now(5), 2);
    }

    private static void alone() {
        String town = "place a;place b;person p a heeds;person q a heeds;sorrow p 2 1;sorrow q 2 1;brolly u a 5;brolly w b 5;";
        FuneralUmbrellas x = Check.of(town);
        x.days(1);
        Check.due("two who heed are not alone", x.now(5), 0);
        x.go(1, 1);
        x.days(1);
        Check.due("each alone", x.now(5), 2);
        x = Check.of(town);
        x.take(0, 0);
        x.days(2);
        Check.due("who carries it is not alone either", x.now(5), 0);
        // it opens for somebody else, too, but he is alone: who is elsewhere does not matter
        x = Check.of(town);
        x.go(1, 1);
        x.take(1, 1);
        x.days(1);
        Check.due("his own one warns", x.now(5), 2);
    }

    // ---- undone

    private static void promise16() {
        FuneralUmbrellas x = Check.of(TOWN);
        Check.due("undo() of nothing", x.undo(), -1);
        String[] was = new String[9];
        int[] answers = new int[8];
        was[0] = Check.all(x);
        answers[0] = x.take(0, 0);
        was[1] = Check.all(x);
        answers[1] = x.go(0, 1);
        was[2] = Check.all(x);
        answers[2] = x.leave(0, 0);
        was[3] = Check.all(x);
        answers[3] = x.funeral(1);
        was[4] = Check.all(x);
        answers[4] = x.days(2) - 2;
        was[5] = Check.all(x);
        answers[5] = x.drawn(1, 5) - 1;
        was[6] = Check.all(x);
        answers[6] = Check.book(x, "day 3;p goes c;q goes c;funeral c;", 1) + 1;
        was[7] = Check.all(x);
        answers[7] = x.days(60) - 60;
        for (int answer : answers) {
            Check.due("each was done", answer, 0);
        }
        for (int i = 7; i >= 0; i--) {
            Check.due("undo()", x.undo(), i);
            Check.due("as it was ahead of it", Check.all(x).equals(was[i]), true);
        }
        Check.due("undo() of nothing", x.undo(), -1);
        Check.due("all stays then", Check.all(x).equals(was[0]), true);
    }

    private static void eightAreKept() {
        FuneralUmbrellas x = Check.of(TOWN);
        for (int i = 1; i <= 8; i++) {
            x.days(i);
        }
        for (int i = 8; i >= 1; i--) {
            Check.due("undo()", x.undo(), i - 1);
            Check.due("the day ahead of it", x.now(0), (i - 1) * i / 2);
        }
        Check.due("undo() of nothing", x.undo(), -1);
        for (int i = 1; i <= 9; i++) {
            x.days(i);
        }
        for (int i = 9; i >= 2; i--) {
            Check.due("undo()", x.undo(), i - 2);
            Check.due("the day ahead of it", x.now(0), (i - 1) * i / 2);
        }
        Check.due("the ninth from the end is not kept", x.undo(), -1);
        Check.due("day 1 stays", x.now(0), 1);
        // undone ones make room
        for (int i = 0; i < 30; i++) {
            x.days(1);
        }
        x.undo();
        x.undo();
        x.days(5);
        for (int i = 6; i >= 0; i--) {
            Check.due("undo()", x.undo(), i);
        }
        Check.due("23 of 30 days are left", x.now(0), 23);
        Check.due("undo() of nothing", x.undo(), -1);
    }

    private static void refusedIsNotKept() {
        FuneralUmbrellas x = Check.of(TOWN);
        x.go(0, 0);
        x.go(0, 9);
        x.take(0, 2);
        x.take(9, 9);
        x.leave(0, 0);
        x.leave(9, 9);
        x.funeral(9);
        x.days(0);
        x.days(61);
        x.drawn(0, 1);
        x.drawn(61, 1);
        x.book(2);
        Check.book(x, "day 1;", 0);
        Check.book(x, "day 0;", 1);
        Check.book(x, "zz", 1);
        x.odds(0, 1, 1);
        x.weeps(9);
        x.toldOf(0, 1);
        x.cover();
        x.hiding();
        x.turns(0, 0, 1);
        Check.sentence(x, "heeds");
        x.image(0);
        Check.due("none was done", x.undo(), -1);
        days(x, 200);
        x.go(0, 1);
        x.days(1);
        x.drawn(1, 1);
        Check.due("days() and drawn() of 0 are not kept", x.undo(), 4);
        Check.due("go() was the latest", x.person(0, 0), 0);
        // a book that was lived is kept, also if its first line is wrong
        Check.due("wrong at once", Check.book(x, "day 1;", 1), 0);
        Check.due("undone alone", x.undo(), 4);
        Check.due("day 200", x.now(0), 200);
    }

    // ---- who will be sorry

    private static void promise17() {
        FuneralUmbrellas x = Check.of(TOWN);
        for (int wrong : FAR_OFF) {
            Check.due("next(" + wrong + ")", x.next(wrong), -1);
        }
        Check.due("next(3)", x.next(3), -1);
        Check.due("next(0)", x.next(0), 4);
        Check.due("next(1)", x.next(1), 2);
        x.days(1);
        Check.due("spared: the next one", x.next(0), 199);
        x.days(1);
        Check.due("that day is past", x.next(1), -1);
        x.go(0, 1);
        days(x, 196);
        Check.due("the day before the last", x.next(0), 199);
        x.days(1);
        Check.due("none", x.next(0), -1);
        Check.due("one without sorrows", Check.of("place a;person p a;").next(0), -1);
        FuneralUmbrellas later = Check.of("place a;person p a;sorrow p 9 1;sorrow p 3 1;sorrow p 3 1;");
        Check.due("not the first told, but the next", later.next(0), 3);
    }

    private static void promise18() {
        FuneralUmbrellas x = Check.of(TOWN);
        for (int wrong : FAR_OFF) {
            if (wrong != 100) {
                Check.due("sorry(" + wrong + ")", x.sorry(wrong), -1);
            }
        }
        Check.due("sorry(0)", x.sorry(0), -1);
        Check.due("sorry(200)", x.sorry(200), -1);
        Check.due("sorry(1)", x.sorry(1), 0);
        Check.due("sorry(2)", x.sorry(2), 2);
        Check.due("sorry(3)", x.sorry(3), 2);
        Check.due("sorry(4)", x.sorry(4), 3);
        Check.due("sorry(11)", x.sorry(11), 3);
        Check.due("sorry(12)", x.sorry(12), 7);
        Check.due("sorry(199)", x.sorry(199), 7);
        x.days(1);
        Check.due("spared till day 199", x.sorry(197), 6);
        Check.due("198 days from day 1", x.sorry(198), 7);
        x.days(1);
        Check.due("past", x.sorry(199), 5);
        days(x, 198);
        Check.due("nobody", x.sorry(199), 0);
        Check.due("sorry(200) then, too", x.sorry(200), -1);
        FuneralUmbrellas last = Check.of("place a;person p a;sorrow p 199 1;");
        Check.due("198 days", last.sorry(198), 0);
        Check.due("199 days", last.sorry(199), 1);
    }

    private static void promise19() {
        FuneralUmbrellas x = Check.of(TOWN);
        for (int wrong : FAR_OFF) {
            Check.due("weeps(" + wrong + ")", x.weeps(wrong), -1);
        }
        String before = Check.all(x);
        Check.due("weeps(0)", x.weeps(0), -1);
        Check.due("weeps(61)", x.weeps(61), -1);
        Check.due("weeps(1)", x.weeps(1), 0);
        Check.due("weeps(2)", x.weeps(2), 7);
        Check.due("weeps(11)", x.weeps(11), 7);
        Check.due("weeps(12)", x.weeps(12), 8);
        Check.due("weeps(60)", x.weeps(60), 8);
        Check.due("all stays", Check.all(x).equals(before), true);
        x.days(2);
        Check.due("what was wept already does not count", x.weeps(10), 1);
        x.go(0, 1);
        days(x, 137);
        Check.due("day 139 and 60 is 199", x.weeps(60), 20);
        Check.due("day 139 and 59 is not", x.weeps(59), 0);
        x.days(59);
        Check.due("day 198", x.weeps(1), 20);
        Check.due("to day 200", x.weeps(60), 20);
        x.days(1);
        Check.due("day 199", x.weeps(60), 0);
        x.days(1);
        Check.due("day 200", x.weeps(60), 0);
        Check.due("weeps(61) then, too", x.weeps(61), -1);
    }

    private static void promise42() {
        FuneralUmbrellas x = Check.of(TOWN);
        int[] due = {3, 3, 4, 3, 2, 0};
        for (int what = 0; what < 6; what++) {
            Check.due("count(" + what + ")", x.count(what), due[what]);
        }
        Check.due("count(6)", x.count(6), -1);
        for (int wrong : FAR_OFF) {
            Check.due("count(" + wrong + ")", x.count(wrong), -1);
        }
        x.feed(1, 1, 1, 1, 1);
        Check.due("bytes of the tape", x.count(5), 20);
        x.end(7);
        Check.due("bytes of the tape", x.count(5), 7);
    }

    private static void thrownChangesNothing() {
        FuneralUmbrellas x = Check.of(TOWN);
        x.take(0, 0);
        x.days(1);
        Check.sentence(x, "heeds");
        x.feed(1, 2, 3, 4, 5);
        String before = Check.all(x);
        for (int wrong : FAR_OFF) {
            Check.dueThrown("person", () -> x.person(wrong, wrong));
            Check.dueThrown("umbrella", () -> x.umbrella(wrong, wrong));
            Check.dueThrown("sorrow", () -> x.sorrow(wrong, wrong));
        }
        Check.due("all stays", Check.all(x).equals(before), true);
        Check.due("the tape stays", x.count(5), 20);
        Check.due("what can be undone stays", x.undo(), 1);
        Check.due("fault() stays", x.fault(), 0);
    }
}
