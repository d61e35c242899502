/** The edges of books, sentences and images: promises 36, 37 and 39 to 41, and an object's 512 calls. */
final class EdgeKeptTest {
    private static final int[] FAR_OFF = {Integer.MIN_VALUE, Integer.MIN_VALUE + 1, -1000, -2, 100, 1000, 65536,
        Integer.MAX_VALUE - 1, Integer.MAX_VALUE};
    private static final String TOWN = "place a;place b;place c;person p a heeds;person q b;person r b;sorrow p 4 3;"
            + "sorrow q 2 7;sorrow p 199 20;sorrow r 12 1;brolly u a 2;brolly w b 0;brolly z c 11;";

    public static void main(String[] args) {
        promise36();
        wrongAtOnce();
        wrongLater();
        lastDaysOfABook();
        promise37();
        promise38();
        promise39();
        sets();
        promise40();
        promise41();
        whatStays();
        calls512();
        Check.finish("EdgeKeptTest");
    }

    // ---- books

    private static void promise36() {
        FuneralUmbrellas x = Check.of(TOWN);
        Check.feed(x, "day 1;");
        for (int wrong : FAR_OFF) {
            Check.due("book(" + wrong + ")", x.book(wrong), -1000);
        }
        Check.due("book(-1)", x.book(-1), -1000);
        Check.due("book(2)", x.book(2), -1000);
        Check.due("the tape stays", x.count(5), 6);
        Check.due("it is no book yet", x.told(0), -1);
        Check.due("book(0)", x.book(0), -1);
        Check.due("the tape is empty", x.count(5), 0);
        Check.due("day 0", x.now(0), 0);
        Check.due("an empty book, judged", x.book(0), -1);
        Check.due("an empty book, lived", x.book(1), -1);
        Check.due("no lines", x.told(1), 0);
        Check.due("book(1)", Check.book(x, "day 1;", 1), -1);
        Check.due("day 1", x.now(0), 1);
        Check.due("the greatest place of a fault", Check.book(x, " ".repeat(940), 1), -402);
        Check.due("the least place of a fault", Check.book(x, "9", 1), -2);
        Check.due("forty lines, the last wrong", Check.book(x, "day 1;".repeat(39) + "p goes a;", 0), 39);
        Check.due("forty lines, none wrong", Check.book(x, "day 1;".repeat(39) + "p goes b;", 1), -1);
        Check.due("day 40", x.now(0), 40);
        // a book as long as may be, with all that there is in it
        FuneralUmbrellas y = Check.of(TOWN);
        String lines = "p takes u;p goes c;p takes z;p leaves u;funeral c;day 1;p goes a;p leaves z;";
        Check.due("all acts", Check.book(y, lines + " ".repeat(400 - lines.length()), 1), -1);
        Check.due("day 1", y.now(0), 1);
        Check.due("where they are", y.umbrella(0, 0) * 10 + y.umbrella(2, 0), 20);
        Check.due("funerals", y.umbrella(0, 2) * 100 + y.umbrella(2, 2), 312);
    }

    private static void dueWrong(String text, int line, int why) {
        for (int lives = 0; lives <= 1; lives++) {
            FuneralUmbrellas x = Check.of(TOWN);
            String before = Check.all(x);
            Check.due(text, Check.book(x, text, lives), line);
            Check.due("no fault", x.fault(), 0);
            Check.due("why of " + text, x.told(0), why);
            Check.due("lines that are not", x.told(1), line);
            Check.due("all stays if judged", lives == 1 || Check.all(x).equals(before), true);
            Check.due("lived ones are undone whole", x.undo(), lives == 1 ? 0 : -1);
            Check.due("all is as it was", Check.all(x).equals(before), true);
        }
    }

    private static void wrongAtOnce() {
        dueWrong("p goes a;", 0, 1);
        dueWrong("p takes w;", 0, 11);
        dueWrong("p leaves u;", 0, 21);
        dueWrong("p leaves z;", 0, 21);
        dueWrong("p goes a;p goes b;day 60;", 0, 1);
    }

    private static void wrongLater() {
        dueWrong("p goes b;p goes b;", 1, 1);
        dueWrong("p takes u;p takes u;", 1, 12);
        dueWrong("q takes w;r takes w;", 1, 12);
        dueWrong("q takes w;p takes w;", 1, 11);
        dueWrong("q takes w;r leaves w;", 1, 21);
        dueWrong("p takes u;p goes c;funeral a;day 1;", 2, 31);
        dueWrong("day 60;day 60;day 60;day 21;", 3, 41);
        dueWrong("day 60;day 60;day 60;day 20;day 1;", 4, 41);
        dueWrong("day 60;day 60;day 60;day 60;", 3, 41);
    }

    private static void lastDaysOfABook() {
        FuneralUmbrellas x = Check.of(TOWN);
        Check.due("fewer days are left", Check.book(x, "day 60;day 60;day 60;day 21;", 1), 3);
        Check.due("none of that line went", x.now(0), 180);
        Check.due("told(2)", x.told(2), 180);
        Check.due("just so many are left", Check.book(x, "day 20;", 1), -1);
        Check.due("day 200", x.told(2), 200);
        Check.due("none is left", Check.book(x, "day 1;", 1), 0);
        Check.due("why", x.told(0), 41);
        Check.due("other lines go", Check.book(x, "p goes b;q takes w;funeral b;", 1), -1);
        Check.due("day 200 still", x.told(2), 200);
    }

    private static void promise37() {
        FuneralUmbrellas x = Check.of(TOWN);
        for (int what = -1; what <= 4; what++) {
            Check.due("told(" + what + ") ahead of any", x.told(what), -1);
        }
        Check.book(x, "zz", 0);
        x.book(2);
        for (int what = -1; what <= 4; what++) {
            Check.due("told(" + what + ") ahead of any whole one", x.told(what), -1);
        }
        Check.book(x, "p takes u;p goes b;funeral b;day 1;", 0);
        int[] due = {0, 4, 1, 3};
        for (int what = 0; what < 4; what++) {
            Check.due("told(" + what + ")", x.told(what), due[what]);
        }
        Check.due("told(-1)", x.told(-1), -1);
        Check.due("told(4)", x.told(4), -1);
        for (int wrong : FAR_OFF) {
            Check.due("told(" + wrong + ")", x.told(wrong), -1);
        }
        Check.book(x, "day 0;", 1);
        Check.book(x, "day", 1);
        x.book(2);
        x.book(-1);
        x.days(60);
        for (int what = 0; what < 4; what++) {
            Check.due("the latest that had no fault", x.told(what), due[what]);
        }
        Check.town(x, "place l;");
        Check.due("also behind a new town", x.told(1), 4);
        Check.book(x, "", 0);
        for (int what = 0; what < 4; what++) {
            Check.due("an empty one", x.told(what), 0);
        }
    }

    // ---- sentences

    private static void promise38() {
        FuneralUmbrellas x = Check.of(TOWN);
        Check.due("no sentence yet", x.said(-1), -1);
        Check.due("an empty one is none", Check.sentence(x, ""), -1);
        Check.due("none still", x.said(-1), -1);
        Check.due("the least", Check.sentence(x, "heeds"), 1);
        Check.due("the greatest place of a fault", Check.sentence(x, " ".repeat(940)), -201);
        Check.due("it stays", x.said(-1), 1);
        x.days(1);
        x.undo();
        Check.due("acts leave it", x.said(-1), 1);
        Check.town(x, "place");
        Check.due("a town with a fault leaves it", x.said(-1), 1);
        Check.town(x, TOWN);
        Check.due("a new town has none", x.said(-1), -1);
        Check.sentence(x, "not heeds");
        Check.sentence(x, "heeds");
        Check.due("the latest", x.said(-1), 1);
    }

    private static void promise39() {
        FuneralUmbrellas x = Check.of(TOWN);
        Check.due("said(-1) without one", x.said(-1), -1);
        Check.due("said(0) without one", x.said(0), -1);
        Check.sentence(x, "number<3");
        Check.due("said(-1)", x.said(-1), 3);
        for (int k = 0; k < 3; k++) {
            Check.due("said(" + k + ")", x.said(k), k);
        }
        Check.due("said(3)", x.said(3), -1);
        for (int wrong : FAR_OFF) {
            Check.due("said(" + wrong + ")", x.said(wrong), -1);
        }
        Check.sentence(x, "number>2");
        Check.due("of nobody", x.said(-1), 0);
        Check.due("none such", x.said(0), -1);
        FuneralUmbrellas none = new FuneralUmbrellas();
        Check.due("a sentence in an empty town", Check.sentence(none, "not number=0"), 2);
        Check.due("of nobody", none.said(-1), 0);
        Check.due("none such", none.said(0), -1);
        String seven = "place l;person a l;person b l;person c l;person d l;person e l;person f l;person g l;";
        FuneralUmbrellas all = Check.of(seven);
        Check.sentence(all, "not alone");
        Check.due("all seven", all.said(-1) * 10 + all.said(6), 76);
        Check.due("an eighth", all.said(7), -1);
    }

    private static void dueSaid(FuneralUmbrellas x, String text, int bits) {
        Check.due("ones of " + text, Check.sentence(x, text) > 0, true);
        int seen = 0;
        for (int k = 0; k < x.said(-1); k++) {
            seen |= 1 << x.said(k);
        }
        Check.due(text, seen, bits);
    }

    private static void sets() {
        FuneralUmbrellas x = Check.of(TOWN);
        dueSaid(x, "ahead>2", 0);
        dueSaid(x, "ahead=2", 1);
        dueSaid(x, "ahead<2", 6);
        dueSaid(x, "ahead<0", 0);
        dueSaid(x, "ahead<999", 7);
        dueSaid(x, "wept=0", 7);
        dueSaid(x, "wept>0", 0);
        dueSaid(x, "number=2", 4);
        dueSaid(x, "number>1", 4);
        dueSaid(x, "number<1", 1);
        dueSaid(x, "alone", 1);
        dueSaid(x, "meant", 1);
        dueSaid(x, "heeds", 1);
        dueSaid(x, "at b", 6);
        dueSaid(x, "at c", 0);
        dueSaid(x, "with u", 0);
        x.take(0, 0);
        x.go(0, 1);
        dueSaid(x, "with u", 1);
        dueSaid(x, "alone", 0);
        dueSaid(x, "meant", 3);
        dueSaid(x, "at b", 7);
        x.days(2);
        dueSaid(x, "wept>6", 2);
        dueSaid(x, "wept=7", 2);
        dueSaid(x, "wept<7", 5);
        dueSaid(x, "ahead=0", 2);
        // or, and, not: not binds most, or least
        dueSaid(x, "number=0 or number=1 and number=2", 1);
        dueSaid(x, "number=0 and number=1 or number=2", 4);
        dueSaid(x, "number=2 or number=0 and number=1 or number=0", 5);
        dueSaid(x, "number<2 and number>0 and heeds or number<2 and number>0", 2);
        dueSaid(x, "not number=0 and number=1", 2);
        dueSaid(x, "not number=0 or number=0", 7);
        dueSaid(x, "not(number=0 or number=1)", 4);
        dueSaid(x, "(number=0 or number=1)and number=1", 2);
        dueSaid(x, "not not not number=2", 3);
    }

    // ---- images

    private static void promise40() {
        FuneralUmbrellas x = Check.of(TOWN);
        for (int wrong : FAR_OFF) {
            Check.due("image(" + wrong + ")", x.image(wrong), false);
            Check.due("restore(" + wrong + ")", x.restore(wrong), false);
        }
        Check.due("image(-1)", x.image(-1), false);
        Check.due("image(2)", x.image(2), false);
        Check.due("nothing is kept in 0", x.restore(0), false);
        Check.due("nothing is kept in 1", x.restore(1), false);
        Check.due("image(1)", x.image(1), true);
        Check.due("nothing is kept in 0 still", x.restore(0), false);
        x.days(1);
        Check.due("image(0)", x.image(0), true);
        Check.due("what can be undone stays", x.undo(), 0);
        x.days(3);
        Check.due("restore(0)", x.restore(0), true);
        Check.due("day 1", x.now(0), 1);
        Check.due("restore(1)", x.restore(1), true);
        Check.due("day 0", x.now(0), 0);
        x.days(9);
        Check.due("image(0) anew", x.image(0), true);
        x.restore(1);
        x.restore(0);
        Check.due("day 9", x.now(0), 9);
        x.restore(1);
        Check.due("the other one stays as it was", x.now(0), 0);
    }

    private static void promise41() {
        FuneralUmbrellas x = Check.of(TOWN);
        Check.sentence(x, "with u or at c");
        x.take(0, 0);
        x.go(0, 2);
        x.funeral(2);
        x.days(1);
        String kept = Check.all(x);
        String tag = Check.tag(x, 0);
        x.image(0);
        x.leave(0, 0);
        x.drawn(60, 3);
        Check.town(x, "place l;place m;person k m;brolly o m 3;sorrow k 9 9;far 5;");
        Check.sentence(x, "heeds");
        x.go(0, 0);
        Check.due("restore(-1)", x.restore(-1), false);
        Check.due("restore(2)", x.restore(2), false);
        Check.due("restore(1), nothing is kept there", x.restore(1), false);
        Check.due("a refused one leaves what can be undone", x.undo(), 0);
        x.go(0, 0);
        Check.due("restore(0)", x.restore(0), true);
        Check.due("nothing can be undone", x.undo(), -1);
        Check.due("as kept", Check.all(x).equals(kept), true);
        Check.due("the names, too", Check.tag(x, 0).equals(tag), true);
        Check.due("the sentence, too", x.said(0), 0);
        Check.due("acts go on from there", x.days(2), 2);
        Check.due("and can be undone", x.undo(), 0);
        Check.due("as kept", Check.all(x).equals(kept), true);
        Check.due("a book by its names", Check.book(x, "p leaves u;", 1), -1);
        Check.due("restore(0) again", x.restore(0), true);
        Check.due("what came since is not in it", Check.all(x).equals(kept), true);
        FuneralUmbrellas empty = new FuneralUmbrellas();
        Check.due("an empty town is kept, too", empty.image(1), true);
        Check.town(empty, TOWN);
        Check.due("restore(1)", empty.restore(1), true);
        Check.due("it is empty", empty.count(0) + empty.count(1) + empty.count(2) + empty.count(3), 0);
    }

    private static void whatStays() {
        FuneralUmbrellas x = Check.of(TOWN);
        x.image(0);
        Check.feed(x, 1, 1, 6, 0);
        x.meant();
        x.toldOf(2, 2);
        x.cover();
        x.hiding();
        x.turns(0, 1, 1);
        x.tag(2);
        Check.book(x, "day 9;", 0);
        Check.sentence(x, "at zz");
        Check.feed(x, "day 7;");
        int[] before = {x.surely(), x.ask(), x.toldAt(0), x.toldAt(1), x.covering(), x.hidden(2), x.turn(), x.byteAt(5),
            x.told(2), x.fault(), x.count(5)};
        int[] due = {1, 0, 0, 0, 5, 1, 0, 's', 9, 3, 6};
        for (int i = 0; i < due.length; i++) {
            Check.due("what is told, " + i, before[i], due[i]);
        }
        Check.town(new FuneralUmbrellas(), "place l;");
        x.restore(0);
        int[] behind = {x.surely(), x.ask(), x.toldAt(0), x.toldAt(1), x.covering(), x.hidden(2), x.turn(), x.byteAt(5),
            x.told(2), x.fault(), x.count(5)};
        for (int i = 0; i < due.length; i++) {
            Check.due("what is told behind restore(), " + i, behind[i], due[i]);
        }
        Check.due("the tape can be lived", x.book(1), -1);
        Check.due("day 7", x.now(0), 7);
    }

    /** The dearest calls, as often as an object may be used. */
    private static void calls512() {
        FuneralUmbrellas x = Check.of(TOWN);
        int before = x.odds(0, 30, 1) * 100 + x.toldOf(2, 4);
        for (int i = 0; i < 250; i++) {
            x.go(0, 1 + i % 2);
            x.days(60);
        }
        Check.due("eight are kept", x.undo(), 7);
        Check.town(x, TOWN);
        Check.due("as at first", x.odds(0, 30, 1) * 100 + x.toldOf(2, 4), before);
    }
}
