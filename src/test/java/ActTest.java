/** Promises 11 to 16 and 19: acts, days, what is undone, what would be wept. */
final class ActTest {
    private static final String TOWN = "place home;place club;place zoo;person ann home heeds;person bob club;"
            + "person cid club;sorrow ann 5 3;sorrow bob 2 7;sorrow ann 30 4;sorrow cid 12 1;brolly old home 3;"
            + "brolly new club 0;brolly rag zoo 12;";

    public static void main(String[] args) {
        going();
        taking();
        leaving();
        funerals();
        days();
        sparing();
        undoing();
        whatIsUndone();
        weeping();
        Check.finish("ActTest");
    }

    private static void going() {
        FuneralUmbrellas x = Check.of(TOWN);
        Check.due("go(0, 0)", x.go(0, 0), 1);
        Check.due("go(0, 1)", x.go(0, 1), 0);
        Check.due("he is there", x.person(0, 0), 1);
        Check.due("go(3, 0)", x.go(3, 0), -1);
        Check.due("go(-1, 0)", x.go(-1, 0), -1);
        Check.due("go(0, 3)", x.go(0, 3), -1);
        Check.due("go(0, -1)", x.go(0, -1), -1);
        Check.due("one act is kept", x.undo(), 0);
        Check.due("he is back", x.person(0, 0), 0);
    }

    private static void taking() {
        FuneralUmbrellas x = Check.of(TOWN);
        Check.due("take(0, 1)", x.take(0, 1), 1);
        Check.due("take(1, 1)", x.take(1, 1), 0);
        Check.due("take(1, 1) again", x.take(1, 1), 2);
        Check.due("take(2, 1)", x.take(2, 1), 2);
        Check.due("take(0, 1), carried elsewhere", x.take(0, 1), 1);
        Check.due("take(3, 0)", x.take(3, 0), -1);
        Check.due("take(0, 3)", x.take(0, 3), -1);
        Check.due("take(-1, 0)", x.take(-1, 0), -1);
        Check.due("take(0, -1)", x.take(0, -1), -1);
    }

    private static void leaving() {
        FuneralUmbrellas x = Check.of(TOWN);
        Check.due("leave(1, 1)", x.leave(1, 1), 1);
        x.take(1, 1);
        Check.due("leave(2, 1)", x.leave(2, 1), 1);
        x.go(1, 2);
        Check.due("leave(1, 1) at the zoo", x.leave(1, 1), 0);
        Check.due("nobody carries it", x.umbrella(1, 1), -1);
        Check.due("it is in his place", x.umbrella(1, 0), 2);
        x.go(1, 0);
        Check.due("it stays there", x.umbrella(1, 0), 2);
        Check.due("leave(3, 0)", x.leave(3, 0), -1);
        Check.due("leave(0, 3)", x.leave(0, 3), -1);
        Check.due("leave(-1, 0)", x.leave(-1, 0), -1);
        Check.due("leave(0, -1)", x.leave(0, -1), -1);
    }

    private static void funerals() {
        FuneralUmbrellas x = Check.of(TOWN);
        x.take(1, 1);
        x.go(1, 0);
        Check.due("funeral(1), none there", x.funeral(1), 1);
        Check.due("funeral(0)", x.funeral(0), 0);
        Check.due("one more", x.umbrella(0, 2), 4);
        Check.due("one more, carried", x.umbrella(1, 2), 1);
        Check.due("funeral(2)", x.funeral(2), 0);
        Check.due("twelve at most", x.umbrella(2, 2), 12);
        Check.due("two were held", x.now(7), 2);
        Check.due("funeral(3)", x.funeral(3), -1);
        Check.due("funeral(-1)", x.funeral(-1), -1);
    }

    private static void days() {
        FuneralUmbrellas x = Check.of(TOWN);
        Check.due("days(0)", x.days(0), -1);
        Check.due("days(61)", x.days(61), -1);
        Check.due("days(-5)", x.days(-5), -1);
        Check.due("days(60)", x.days(60), 60);
        Check.due("days(60)", x.days(60), 60);
        Check.due("days(60)", x.days(60), 60);
        Check.due("days(60), twenty left", x.days(60), 20);
        Check.due("all are over", x.now(0), 200);
        Check.due("days(1), none left", x.days(1), 0);
        Check.due("no day was kept for that", x.undo(), 3);
        Check.due("day 180", x.now(0), 180);
        FuneralUmbrellas last = Check.of("place l;person p l;sorrow p 199 9;");
        last.days(60);
        last.days(60);
        last.days(60);
        last.days(18);
        Check.due("not yet", last.now(6), 0);
        last.days(1);
        Check.due("on day 199", last.now(6), 9);
    }

    private static void sparing() {
        String two = "place l;place m;person p l heeds;person q m;sorrow p 4 2;sorrow p 6 3;sorrow p 7 5;brolly u l 3;";
        FuneralUmbrellas x = Check.of(two);
        x.days(1);
        Check.due("all within six days are spared", x.now(5), 2);
        Check.due("the third is ahead", x.now(4), 1);
        x.days(1);
        Check.due("the third is spared then", x.now(5), 3);
        x = Check.of(two);
        x.go(1, 0);
        x.days(60);
        Check.due("not alone: none is spared", x.now(5) * 100 + x.now(6), 10);
        x = Check.of(two);
        x.go(0, 1);
        x.go(1, 0);
        x.days(60);
        Check.due("not there: none is spared", x.now(6), 10);
        x = Check.of(two.replace(" heeds", ""));
        x.days(60);
        Check.due("he does not heed", x.now(6), 10);
        Check.due("he wept all", x.person(0, 3), 10);
        Check.due("the other one nothing", x.person(1, 3), 0);
        x = Check.of(two + "brolly w l 1;");
        x.days(1);
        Check.due("the greatest reach counts", x.now(5), 2);
        x = Check.of("place l;person p l heeds;sorrow p 1 2;brolly u l 1;far 1;");
        x.days(1);
        Check.due("a day ahead is in time", x.now(6) * 10 + x.now(5), 1);
        x = Check.of("place l;person p l heeds;sorrow p 2 2;brolly u l 1;brolly w l 0;far 1;");
        x.take(0, 0);
        x.days(2);
        Check.due("his own one warns, too", x.now(5), 1);
    }

    private static void undoing() {
        FuneralUmbrellas x = Check.of(TOWN);
        Check.due("undo() of nothing", x.undo(), -1);
        String[] states = new String[11];
        states[0] = Check.all(x);
        for (int i = 1; i <= 10; i++) {
            x.go(0, i % 3);
            states[i] = Check.all(x);
        }
        for (int i = 9; i >= 2; i--) {
            Check.due("undo()", x.undo(), i - 2);
            Check.due("as it was behind " + i, Check.all(x).equals(states[i]), true);
        }
        Check.due("eight at most are kept", x.undo(), -1);
        x.go(0, 0);
        Check.due("then one more", x.undo(), 0);
    }

    private static void whatIsUndone() {
        FuneralUmbrellas x = Check.of(TOWN);
        String first = Check.all(x);
        x.take(0, 0);
        x.go(0, 2);
        x.leave(0, 0);
        x.funeral(2);
        x.days(3);
        x.drawn(2, 77);
        Check.book(x, "day 1;bob goes zoo;", 1);
        Check.book(x, "day 1;", 0);
        x.go(9, 9);
        x.leave(0, 1);
        x.weeps(4);
        x.odds(0, 3, 3);
        x.hiding();
        for (int i = 6; i >= 0; i--) {
            Check.due("undo()", x.undo(), i);
        }
        Check.due("all is as it was", Check.all(x).equals(first), true);
        Check.due("nothing more", x.undo(), -1);
        Check.sentence(x, "heeds");
        x.go(0, 1);
        x.undo();
        Check.due("the sentence is not undone", x.said(-1), 1);
        // a book that is wrong from its second line on is undone whole
        Check.due("wrong", Check.book(x, "ann goes club;ann goes club;", 1), 1);
        Check.due("it was lived", x.person(0, 0), 1);
        Check.due("undo()", x.undo(), 0);
        Check.due("all is as it was", x.person(0, 0), 0);
    }

    private static void weeping() {
        FuneralUmbrellas x = Check.of(TOWN);
        String first = Check.all(x);
        Check.due("weeps(1)", x.weeps(1), 0);
        Check.due("weeps(2)", x.weeps(2), 7);
        Check.due("weeps(11)", x.weeps(11), 7);
        Check.due("weeps(12)", x.weeps(12), 8);
        Check.due("weeps(60)", x.weeps(60), 8);
        Check.due("weeps(0)", x.weeps(0), -1);
        Check.due("weeps(61)", x.weeps(61), -1);
        Check.due("all stays", Check.all(x).equals(first), true);
        x.days(3);
        Check.due("from now on", x.weeps(20), 1);
        x.go(0, 1);
        Check.due("what is not warned comes", x.weeps(60), 5);
        x.days(60);
        x.days(60);
        x.days(60);
        Check.due("to day 200", x.weeps(60), 0);
    }
}
