/** Promises 1 to 5 and 42, and the faults of all texts (4, 36, 38). */
final class TextTest {
    private static final String TWO = "place l;place m;person p l;person q m;brolly u l 1;";

    public static void main(String[] args) {
        newObject();
        tape();
        townFaults();
        townLimits();
        townStays();
        bookFaults();
        sentenceFaults();
        tooLong();
        faultOfTheLatest();
        Check.finish("TextTest");
    }

    private static void newObject() {
        FuneralUmbrellas x = new FuneralUmbrellas();
        for (int what = -1; what <= 6; what++) {
            int due = what == 4 ? 2 : what < 0 || what > 5 ? -1 : 0;
            Check.due("count(" + what + ") of a new object", x.count(what), due);
        }
        Check.due("fault() of a new object", x.fault(), 0);
        Check.due("now(0) of a new object", x.now(0), 0);
        Check.due("undo() of a new object", x.undo(), -1);
        Check.due("restore(1) of a new object", x.restore(1), false);
    }

    private static void tape() {
        FuneralUmbrellas x = new FuneralUmbrellas();
        for (int i = 1; i <= 47; i++) {
            Check.due("feed", x.feed(1, 2, 3, 4, 5), 20 * i);
        }
        Check.due("feed beyond 940", x.feed(1, 2, 3, 4, 5), -1);
        Check.due("the tape stays", x.count(5), 940);
        Check.due("end(941)", x.end(941), false);
        Check.due("end(-1)", x.end(-1), false);
        Check.due("end(940)", x.end(940), true);
        Check.due("end(921)", x.end(921), true);
        Check.due("feed to 941", x.feed(1, 2, 3, 4, 5), -1);
        Check.due("end(920)", x.end(920), true);
        Check.due("feed to 940", x.feed(1, 2, 3, 4, 5), 940);
        Check.due("end(0)", x.end(0), true);
        Check.due("the tape is empty", x.count(5), 0);
        Check.due("end(1) of an empty tape", x.end(1), false);
        // the highest byte of each number comes first
        x.feed(0x706c6163, 0x6520613b, 0x706c6163, 0x6520623b, 0x20202020);
        Check.due("town()", x.town(), 2);
        Check.due("two places", x.count(0), 2);
        Check.due("the tape is empty behind town()", x.count(5), 0);
    }

    private static void town(String text, int place, int kind) {
        FuneralUmbrellas x = new FuneralUmbrellas();
        Check.due("town " + text, Check.town(x, text), -1 - place);
        Check.due("fault of town " + text, x.fault(), kind);
        Check.due("the tape behind town " + text, x.count(5), 0);
    }

    private static void townFaults() {
        Check.due("an empty town", Check.town(new FuneralUmbrellas(), ""), 0);
        Check.due("a blank town", Check.town(new FuneralUmbrellas(), " \n "), 0);
        Check.due("no blanks needed", Check.town(new FuneralUmbrellas(), "far 3;place\na;person b a heeds;\n"), 3);
        town("place a", 7, 1);
        town("place a  ", 9, 1);
        town("place", 5, 1);
        town("place a;;", 8, 1);
        town("hut a;", 0, 1);
        town("heeds;", 0, 1);
        town("7;", 0, 1);
        town("place a7;", 6, 1);
        town("place 7a;", 6, 1);
        town("place 7;", 6, 1);
        town("place abcdefgh;", 6, 1);
        town("place Abc;", 6, 1);
        town("place aB;", 7, 1);
        town("place\ta;", 5, 1);
        town("place a.", 7, 1);
        town("place a\0;", 7, 1);
        town("place " + (char) 225 + ";", 6, 1);
        Check.due("seven letters", Check.town(new FuneralUmbrellas(), "place abcdefg;"), 1);
        String[] kept = {"place", "person", "heeds", "sorrow", "brolly", "far", "goes", "takes", "leaves", "funeral",
            "day", "or", "and", "not", "alone", "meant", "at", "with", "ahead", "wept", "number"};
        for (String word : kept) {
            town("place " + word + ";", 6, 1);
            town("place a;person " + word + " a;", 15, 1);
            town("place a;person b " + word + ";", 17, 1);
            town("place a;sorrow " + word + " 1 1;", 15, 1);
        }
        town("place l;person p q;", 17, 3);
        town("place l;person p p;", 17, 3);
        town("place l;person p l;person q p;", 28, 3);
        town("place l;person p l;sorrow l 1 1;", 26, 3);
        town("place l;person p l;brolly p l 1;", 26, 3);
        town("place l;person p l;brolly u p 1;", 28, 3);
        town("place l;brolly u l 1;place u;", 27, 3);
        town("place l;person p l heeds heeds;", 25, 1);
        town("place l;person p l;sorrow p 1;", 29, 1);
        town("place l;person p l;sorrow p 1 1 1;", 32, 1);
        town("place l;person p l;sorrow p x 1;", 28, 1);
        town("place l;person p l;sorrow p 0199 1;", 28, 1);
        town("place l;person p l;sorrow p 000 1;", 28, 2);
        town("far x;", 4, 1);
        town("far 999;", 4, 2);
        town("far 1;place a;far 9;", 14, 3);
        Check.due("leading noughts", Check.town(new FuneralUmbrellas(),
                "place l;person p l;sorrow p 007 01;brolly u l 012;far 005;"), 5);
        Check.due("edges", Check.town(new FuneralUmbrellas(),
                "place l;person p l;sorrow p 199 20;sorrow p 1 1;brolly u l 0;far 1;"), 6);
        town("place l;brolly u l 13;", 19, 2);
    }

    private static void townLimits() {
        String persons = "place l;";
        for (char c = 'a'; c < 'h'; c++) {
            persons += "person " + c + " l;";
        }
        FuneralUmbrellas x = new FuneralUmbrellas();
        Check.due("seven persons", Check.town(x, persons), 8);
        town(persons + "person", persons.length(), 4);
        town(persons + "person 9 9;", persons.length(), 4);
        String sorrows = "place l;person p l;";
        for (int i = 0; i < 14; i++) {
            sorrows += "sorrow p 1 1;";
        }
        Check.due("fourteen sorrows", Check.town(x, sorrows), 16);
        town(sorrows + " sorrow p 1 1;", sorrows.length() + 1, 4);
        String umbrellas = "place l;";
        for (char c = 'a'; c < 'g'; c++) {
            umbrellas += "brolly " + c + " l 1;";
        }
        Check.due("six umbrellas", Check.town(x, umbrellas), 7);
        town(umbrellas + "brolly g l 1;", umbrellas.length(), 4);
        String places = "place a;place b;place c;place d;place e;";
        Check.due("five places", Check.town(x, places), 5);
        town(places + "place a;", places.length(), 4);
    }

    private static void townStays() {
        FuneralUmbrellas x = Check.of(TWO);
        x.go(0, 1);
        Check.sentence(x, "at l");
        String before = Check.all(x);
        Check.due("a town with a fault", Check.town(x, "place a;place a;"), -15);
        Check.due("the town stays", Check.all(x).equals(before), true);
        Check.due("acts can be undone still", x.undo(), 0);
        x.go(0, 1);
        Check.due("a new town", Check.town(x, "place a;far 4;"), 2);
        Check.due("nothing can be undone in it", x.undo(), -1);
        Check.due("no sentence in it", x.said(-1), -1);
        Check.due("its far", x.count(4), 4);
        Check.due("far is 2 again without", Check.town(x, "place a;") * 10 + x.count(4), 12);
    }

    private static void book(String text, int place, int kind) {
        FuneralUmbrellas x = Check.of(TWO);
        String before = Check.all(x);
        Check.due("book " + text, Check.book(x, text, 1), -2 - place);
        Check.due("fault of book " + text, x.fault(), kind);
        Check.due("all stays", Check.all(x).equals(before), true);
        Check.due("the tape behind book " + text, x.count(5), 0);
        Check.due("nothing to undo", x.undo(), -1);
        Check.due("told() ahead of any whole book", x.told(0), -1);
    }

    private static void bookFaults() {
        book("p", 1, 1);
        book("p;", 1, 1);
        book("p heeds;", 2, 1);
        book("p q;", 2, 1);
        book("p goes;", 6, 1);
        book("p goes u;", 7, 3);
        book("p goes q;", 7, 3);
        book("p goes x;", 7, 3);
        book("p goes day;", 7, 1);
        book("p goes m", 8, 1);
        book("p goes m m;", 9, 1);
        book("p takes l;", 8, 3);
        book("p leaves p;", 9, 3);
        book("goes l;", 0, 1);
        book("l goes l;", 0, 3);
        book("x goes l;", 0, 3);
        book("x", 0, 3);
        book("5;", 0, 1);
        book(";", 0, 1);
        book("funeral p;", 8, 3);
        book("funeral 1;", 8, 1);
        book("day 0;", 4, 2);
        book("day 61;", 4, 2);
        book("day p;", 4, 1);
        book("day 1000;", 4, 1);
        String forty = "day 1;".repeat(40);
        Check.due("forty lines", Check.book(Check.of(TWO), forty, 0), -1);
        book(forty + "day 1;", 240, 4);
        book(forty + " p goes x;", 241, 4);
        book(forty + "x goes l;", 240, 3);
        book(forty + "u goes l;", 240, 3);
        book(forty + "goes l;", 240, 1);
        book(forty + "funeral", 240, 4);
        book(forty + "9", 240, 1);
    }

    private static void sentence(String text, int place, int kind) {
        FuneralUmbrellas x = Check.of(TWO);
        Check.sentence(x, "at l");
        Check.due("sentence " + text, Check.sentence(x, text), -1 - place);
        Check.due("fault of sentence " + text, x.fault(), kind);
        Check.due("the sentence stays", x.said(-1) * 10 + x.said(0), 10);
        Check.due("the tape behind sentence " + text, x.count(5), 0);
    }

    private static void sentenceFaults() {
        sentence("", 0, 1);
        sentence("  ", 2, 1);
        sentence("heeds;", 5, 1);
        sentence("heeds heeds", 6, 1);
        sentence("heeds and", 9, 1);
        sentence("heeds or or", 9, 1);
        sentence("and heeds", 0, 1);
        sentence("p", 0, 1);
        sentence("zz", 0, 1);
        sentence("()", 1, 1);
        sentence("(heeds", 6, 1);
        sentence("heeds)", 5, 1);
        sentence("(heeds))", 7, 1);
        sentence("((heeds)", 8, 1);
        sentence("not", 3, 1);
        sentence("not and", 4, 1);
        sentence("not (not heeds", 14, 1);
        sentence("not heeds )", 10, 1);
        sentence("at", 2, 1);
        sentence("at p", 3, 3);
        sentence("at u", 3, 3);
        sentence("at z", 3, 3);
        sentence("at at", 3, 1);
        sentence("at 1", 3, 1);
        sentence("with l", 5, 3);
        sentence("ahead 1", 6, 1);
        sentence("ahead < ", 8, 1);
        sentence("ahead < < 1", 8, 1);
        sentence("ahead ; 1", 6, 1);
        sentence("ahead ( 1", 6, 1);
        sentence("wept = x", 7, 1);
        sentence("number > 1000", 9, 1);
        sentence("place l", 0, 1);
        Check.due("a great number", Check.sentence(Check.of(TWO), "number < 999"), 1);
        String twenty = "heeds" + " or heeds".repeat(19);
        Check.due("twenty ones", Check.sentence(Check.of(TWO), twenty), 20);
        sentence(twenty + " or alone", twenty.length() + 4, 4);
        sentence(twenty + " or )", twenty.length() + 4, 1);
        sentence(twenty + " or p", twenty.length() + 4, 1);
        sentence(twenty + " or (", twenty.length() + 4, 4);
        Check.due("eight within", Check.sentence(Check.of(TWO), "not ".repeat(7) + "heeds"), 8);
        Check.due("eight within brackets", Check.sentence(Check.of(TWO), "(((((((alone)))))))"), 8);
        Check.due("eight within, mixed", Check.sentence(Check.of(TWO),
                "not(not(not(not alone or not heeds)and meant))and alone"), 12);
        sentence("not ".repeat(8) + "heeds", 32, 4);
        sentence("((((((((heeds))))))))", 8, 4);
        sentence("((((((((", 8, 1);
        sentence("(((((((((", 8, 4);
        sentence("((((((((9", 8, 1);
        sentence("(((((((alone or not heeds", 20, 4);
    }

    private static void tooLong() {
        String town = "place l;person p l;";
        town(town + " ".repeat(901 - town.length()), 900, 1);
        Check.due("900 bytes", Check.town(new FuneralUmbrellas(), town + " ".repeat(900 - town.length())), 2);
        town(" ".repeat(901) + "x", 900, 1);
        town(" ".repeat(899) + "xx", 899, 1);
        town(" ".repeat(890) + "place abcde;", 900, 1);
        // a token that begins ahead of the bound is read whole
        town(" ".repeat(890) + "place abcdefgh;", 896, 1);
        town(" ".repeat(890) + "place abcdefg;", 900, 1);
        town("place abcde;" + " ".repeat(880) + "place abcdef;", 900, 1);
        town("place abcde;" + " ".repeat(881) + "place abcde;", 899, 3);
        town(" ".repeat(896) + "far 6;", 900, 1);
        town(" ".repeat(895) + "far 6;", 899, 2);
        town(" ".repeat(895) + "far 1;", 900, 1);
        book(" ".repeat(401), 400, 1);
        book(" ".repeat(395) + "day 12;", 400, 1);
        book(" ".repeat(395) + "day 99;", 399, 2);
        Check.due("400 bytes", Check.book(Check.of(TWO), " ".repeat(394) + "day 1;", 0), -1);
        sentence("heeds" + " ".repeat(196), 200, 1);
        sentence(" ".repeat(199) + "heeds", 200, 1);
        sentence(" ".repeat(199) + "hee", 199, 1);
        sentence("heeds" + " ".repeat(190) + "zzzzzz", 195, 1);
        Check.due("200 bytes", Check.sentence(Check.of(TWO), " ".repeat(195) + "heeds"), 1);
    }

    private static void faultOfTheLatest() {
        FuneralUmbrellas x = Check.of(TWO);
        Check.town(x, "far 9;");
        Check.due("fault of a town", x.fault(), 2);
        Check.due("book(2)", x.book(2), -1000);
        Check.due("it leaves the fault", x.fault(), 2);
        Check.due("book(-1)", x.book(-1), -1000);
        Check.sentence(x, "heeds");
        Check.due("no fault of a sentence", x.fault(), 0);
        Check.book(x, "x goes l;", 0);
        Check.due("fault of a book", x.fault(), 3);
        Check.feed(x, "day 1;");
        Check.due("book(7)", x.book(7), -1000);
        Check.due("the tape stays", x.count(5), 6);
        Check.due("and can be judged", x.book(0), -1);
        Check.due("no fault of a book", x.fault(), 0);
    }
}
