/** The edges of the tape and of all texts: the document's Terms, promises 1 to 5, and the faults of 36 and 38. */
final class EdgeTextTest {
    private static final String SMALL = "place l;place m;person p l;person q m heeds;brolly u l 1;";
    private static final String[] KEPT = {"place", "person", "heeds", "sorrow", "brolly", "far", "goes", "takes", "leaves",
        "funeral", "day", "or", "and", "not", "alone", "meant", "at", "with", "ahead", "wept", "number"};

    public static void main(String[] args) {
        promise01();
        promise02();
        promise03();
        blanks();
        words();
        numbers();
        signs();
        townNumbers();
        townNames();
        townMost();
        townBytes();
        promise04();
        bookEdges();
        bookMost();
        bookBytes();
        sentenceEdges();
        sentenceMost();
        sentenceBytes();
        leastOfOneToken();
        firstAlongTheText();
        promise05();
        Check.finish("EdgeTextTest");
    }

    // ---- what is due of one text

    private static void wholeTown(String text, int lines) {
        FuneralUmbrellas x = new FuneralUmbrellas();
        Check.due("town '" + text + "'", Check.town(x, text), lines);
        Check.due("its fault", x.fault(), 0);
        Check.due("the tape is empty", x.count(5), 0);
    }

    private static void wrongTown(String text, int at, int kind) {
        FuneralUmbrellas x = Check.of(SMALL);
        String before = Check.all(x);
        Check.due("town '" + text + "'", Check.town(x, text), -1 - at);
        Check.due("its fault", x.fault(), kind);
        Check.due("the tape is empty", x.count(5), 0);
        Check.due("the town stays", Check.all(x).equals(before), true);
    }

    private static void wholeBook(String text) {
        FuneralUmbrellas x = Check.of(SMALL);
        Check.due("book '" + text + "'", Check.book(x, text, 0), -1);
        Check.due("its fault", x.fault(), 0);
        Check.due("the tape is empty", x.count(5), 0);
    }

    private static void wrongBook(String text, int at, int kind) {
        for (int lives = 0; lives <= 1; lives++) {
            FuneralUmbrellas x = Check.of(SMALL);
            String before = Check.all(x);
            Check.due("book '" + text + "'", Check.book(x, text, lives), -2 - at);
            Check.due("its fault", x.fault(), kind);
            Check.due("the tape is empty", x.count(5), 0);
            Check.due("all stays", Check.all(x).equals(before) && x.undo() == -1, true);
        }
    }

    private static void wholeSentence(String text, int ones) {
        FuneralUmbrellas x = Check.of(SMALL);
        Check.due("sentence '" + text + "'", Check.sentence(x, text), ones);
        Check.due("its fault", x.fault(), 0);
        Check.due("the tape is empty", x.count(5), 0);
        Check.due("there is a sentence", x.said(-1) >= 0, true);
    }

    private static void wrongSentence(String text, int at, int kind) {
        FuneralUmbrellas x = Check.of(SMALL);
        Check.due("sentence '" + text + "'", Check.sentence(x, text), -1 - at);
        Check.due("its fault", x.fault(), kind);
        Check.due("the tape is empty", x.count(5), 0);
        Check.due("there is none", x.said(-1), -1);
        Check.sentence(x, "number=1");
        Check.due("sentence '" + text + "'", Check.sentence(x, text), -1 - at);
        Check.due("the one before stays", x.said(0), 1);
    }

    // ---- promises 1 to 3

    private static void promise01() {
        FuneralUmbrellas x = new FuneralUmbrellas();
        int[] counts = {0, 0, 0, 0, 2, 0};
        for (int what = 0; what < counts.length; what++) {
            Check.due("count(" + what + ")", x.count(what), counts[what]);
        }
        for (int what = 0; what < 8; what++) {
            Check.due("now(" + what + ")", x.now(what), 0);
        }
        Check.due("said(-1)", x.said(-1), -1);
        Check.due("undo()", x.undo(), -1);
        Check.due("fault()", x.fault(), 0);
        Check.due("surely()", x.surely(), -1);
        Check.due("ask()", x.ask(), -1);
        Check.due("toldAt(0)", x.toldAt(0), -1);
        Check.due("covering()", x.covering(), -1);
        Check.due("hidden(0)", x.hidden(0), -1);
        Check.due("turn()", x.turn(), -1);
        Check.due("byteAt(0)", x.byteAt(0), -1);
        Check.due("told(0)", x.told(0), -1);
        Check.due("restore(0)", x.restore(0), false);
        Check.due("restore(1)", x.restore(1), false);
        Check.due("an empty text is an empty town", x.town(), 0);
        Check.due("days go by in it", x.days(60), 60);
    }

    private static void promise02() {
        FuneralUmbrellas x = new FuneralUmbrellas();
        for (int bytes = 20; bytes <= 940; bytes += 20) {
            Check.due("feed()", x.feed(0, 0, 0, 0, 0), bytes);
        }
        Check.due("a 941st byte", x.feed(0, 0, 0, 0, 0), -1);
        Check.due("none came", x.count(5), 940);
        for (int n = 939; n > 920; n -= 6) {
            x.end(n);
            Check.due("feed() behind " + n, x.feed(0, 0, 0, 0, 0), -1);
            Check.due("none came", x.count(5), n);
        }
        x.end(920);
        Check.due("feed() behind 920", x.feed(0, 0, 0, 0, 0), 940);
        x.end(0);
        // the highest byte first, and all 256 bytes as they are: here as the persons and answers of meant()
        Check.due("an empty tape", x.feed(0x00010000, 0x00ff0080, -1, Integer.MIN_VALUE, Integer.MAX_VALUE), 20);
        x.end(2);
        Check.due("near nobody it opened", x.meant(), 0);
        x.feed(0x00000001, 0, 0, 0, 0);
        x.end(4);
        Check.due("near nobody it opened", x.meant(), 0);
        x.feed(0x00000000, 0x00000000, 0, 0, 0x01000000);
        x.end(16);
        Check.due("eight times not", x.meant(), 1);
        x.feed(0xff000000, 0, 0, 0, 0);
        x.end(2);
        Check.due("255 is no -1", x.meant(), -1);
    }

    private static void promise03() {
        FuneralUmbrellas x = new FuneralUmbrellas();
        Check.due("end(0) of an empty tape", x.end(0), true);
        Check.due("end(1) of an empty tape", x.end(1), false);
        x.feed(1, 2, 3, 4, 5);
        Check.due("end(21)", x.end(21), false);
        Check.due("end(-1)", x.end(-1), false);
        Check.due("end(least)", x.end(Integer.MIN_VALUE), false);
        Check.due("end(greatest)", x.end(Integer.MAX_VALUE), false);
        Check.due("all are there", x.count(5), 20);
        Check.due("end(20)", x.end(20), true);
        Check.due("end(19)", x.end(19), true);
        Check.due("end(20) of 19", x.end(20), false);
        Check.due("its first 19", x.count(5), 19);
        // its first n: what came behind does not come back
        Check.feed(x, "place a;place b;");
        x.end(8);
        x.feed(0x20202020, 0x20202020, 0x20202020, 0x20202020, 0x20202020);
        Check.due("the first line alone", x.town(), 1);
    }

    // ---- tokens

    private static void blanks() {
        wholeTown("place a;place b;person c b heeds;", 3);
        wholeTown("\n \nplace\na\n;place  \n b ; person\nc\nb\nheeds\n;\n ", 3);
        wholeTown("place a;far\n1;", 2);
        for (int c = 0; c < 256; c++) {
            if (c == 32 || c == 10) {
                wholeTown("place a;" + (char) c, 1);
            } else if (c >= '0' && c <= '9' || c >= 'a' && c <= 'z') {
                wrongTown("place a;" + (char) c, 8, 1);
                wrongTown("place a;;" + (char) c, 8, 1);
            } else {
                wrongTown("place a;" + (char) c, 8, 1);
                wrongTown("place" + (char) c + "a;", 5, 1);
            }
        }
    }

    private static void words() {
        wholeTown("place a;", 1);
        wholeTown("place z;", 1);
        wholeTown("place azazaza;", 1);
        wrongTown("place azazazaz;", 6, 1);
        wrongTown("placeplace a;", 0, 1);
        wrongTown("place" + "a".repeat(40) + ";", 0, 1);
        wrongTown("place `;", 6, 1);
        wrongTown("place {;", 6, 1);
        wrongTown("place a{;", 7, 1);
        wrongTown("place A;", 6, 1);
        wrongTown("place aZ;", 7, 1);
        wrongTown("place a1;", 6, 1);
        wrongTown("place 1a;", 6, 1);
        wrongTown("place1 a;", 0, 1);
        // seven letters are told apart to the last
        wholeTown("place abcdefg;place abcdefh;place bbcdefg;", 3);
        wrongTown("place abcdefg;place abcdefg;", 20, 3);
        wholeTown("place a;place aa;place aaa;place aaaa;place aaaaa;", 5);
    }

    private static void numbers() {
        wholeTown("far 1;", 1);
        wholeTown("far 01;", 1);
        wholeTown("far 001;", 1);
        wrongTown("far 0001;", 4, 1);
        wrongTown("far 1a;", 4, 1);
        wrongTown("far /;", 4, 1);
        wrongTown("far :;", 4, 1);
        wrongTown("far 1:;", 5, 1);
        wrongTown("far -1;", 4, 1);
        wrongTown("far 1 1;", 6, 1);
        wrongTown("far 2147483647;", 4, 1);
        wrongTown("far 4294967297;", 4, 1);
        wrongTown("far 99999999999999999999;", 4, 1);
    }

    private static void signs() {
        String[] none = {".", ",", ":", "!", "[", "]", "-", "+", "\"", "'"};
        for (String sign : none) {
            wrongSentence("heeds" + sign, 5, 1);
            wrongSentence("ahead" + sign + "1", 5, 1);
            wrongTown("place a" + sign, 7, 1);
            wrongBook("day 1" + sign, 5, 1);
        }
        for (String sign : new String[] {"<", "=", ">", "(", ")"}) {
            wrongTown("place a" + sign, 7, 1);
            wrongBook("day 1" + sign, 5, 1);
        }
        wrongSentence("ahead<=1", 6, 1);
        wrongSentence("ahead==1", 6, 1);
    }

    // ---- a town

    private static void townNumbers() {
        String p = "place l;person p l;sorrow p ";
        for (int day = 0; day <= 999; day += day < 3 || day > 197 && day < 202 ? 1 : 15) {
            if (day >= 1 && day <= 199) {
                wholeTown(p + day + " 1;", 3);
            } else {
                wrongTown(p + day + " 1;", 28, 2);
            }
        }
        for (int n = 0; n <= 22; n++) {
            if (n >= 1 && n <= 20) {
                wholeTown(p + "199 " + n + ";", 3);
            } else {
                wrongTown(p + "199 " + n + ";", 32, 2);
            }
        }
        for (int funerals = 0; funerals <= 14; funerals++) {
            if (funerals <= 12) {
                wholeTown("place l;brolly u l " + funerals + ";", 2);
            } else {
                wrongTown("place l;brolly u l " + funerals + ";", 19, 2);
            }
        }
        for (int far = 0; far <= 7; far++) {
            if (far >= 1 && far <= 5) {
                Check.due("'far'", Check.of("far " + far + ";").count(4), far);
            } else {
                wrongTown("far " + far + ";", 4, 2);
            }
        }
        wrongTown(p + "0 0;", 28, 2);
        wrongTown(p + "199 999;", 32, 2);
        wrongTown("place l;brolly u l 999;", 19, 2);
        Check.due("'far' without", Check.of("place l;").count(4), 2);
        wrongTown("far 2;far 2;", 6, 3);
        wrongTown("far 2;far;", 6, 3);
        wrongTown("far 2;place l;person p l;far 0;", 25, 3);
    }

    private static void townNames() {
        for (String word : KEPT) {
            wrongTown("place " + word + ";", 6, 1);
            wrongTown("place l;person " + word + " l;", 15, 1);
            wrongTown("place l;brolly " + word + " l 1;", 15, 1);
            wrongTown("place l;person p " + word + ";", 17, 1);
            wrongTown("place l;brolly u " + word + " 1;", 17, 1);
            wrongTown("place l;person p l;sorrow " + word + " 1 1;", 26, 1);
            boolean line = word.equals("place") || word.equals("person") || word.equals("sorrow")
                    || word.equals("brolly") || word.equals("far");
            wrongTown(word + " ;", line ? word.length() + 1 : 0, 1);
        }
        String[] others = {"sorrows", "places", "umbrell", "is", "open", "shut", "days", "funer", "go", "take", "leave", "told"};
        for (String word : others) {
            wholeTown("place " + word + ";", 1);
        }
        wrongTown("place l;place l;", 14, 3);
        wrongTown("place l;person l l;", 15, 3);
        wrongTown("place l;brolly l l 1;", 15, 3);
        wrongTown("place l;person p l;person p l;", 26, 3);
        wrongTown("place l;person p l;place p;", 25, 3);
        wrongTown("place l;person p l;brolly p l 1;", 26, 3);
        wrongTown("place l;brolly u l 1;brolly u l 1;", 28, 3);
        wrongTown("place l;brolly u l 1;person u l;", 28, 3);
        wrongTown("place l;brolly u l 1;place u;", 27, 3);
        wrongTown("person p p;", 9, 3);
        wrongTown("person p l;place l;", 9, 3);
        wrongTown("brolly u u 1;", 9, 3);
        wrongTown("place l;brolly u l 1;sorrow u 1 1;", 28, 3);
        wrongTown("place l;sorrow l 1 1;", 15, 3);
        wrongTown("place l;sorrow p 1 1;person p l;", 15, 3);
        wrongTown("place l;person p l;person q p;", 28, 3);
        wrongTown("place l;brolly u l 1;brolly w u 1;", 30, 3);
    }

    private static String lines(String before, String first, String second, int number) {
        StringBuilder text = new StringBuilder(before);
        for (int i = 0; i < number; i++) {
            text.append(first).append(first.startsWith("sorrow") ? "" : "" + (char) ('a' + i)).append(second);
        }
        return text.toString();
    }

    private static void townMost() {
        String[][] sorts = {{"", "place x", ";"}, {"place l;", "person x", " l;"},
            {"place l;person p l;", "sorrow p 9 9", ";"}, {"place l;", "brolly x", " l 9;"}};
        int[] most = {5, 7, 14, 6};
        for (int sort = 0; sort < 4; sort++) {
            String[] line = sorts[sort];
            String full = lines(line[0], line[1], line[2], most[sort]);
            FuneralUmbrellas x = Check.of(full);
            Check.due("all of the sort", x.count(sort), most[sort]);
            String word = line[1].substring(0, 6).trim();
            wrongTown(lines(line[0], line[1], line[2], most[sort] + 1), full.length(), 4);
            wrongTown(full + "\n" + word, full.length() + 1, 4);
            wrongTown(full + word + " 99 99;", full.length(), 4);
            wrongTown(full + word + " place;", full.length(), 4);
        }
        String all = lines("", "place l", ";", 5) + lines("", "person p", " la heeds;", 7)
                + lines("", "brolly u", " le 12;", 6) + lines("", "sorrow pg 199 20", ";", 14) + "far 5;";
        FuneralUmbrellas x = new FuneralUmbrellas();
        Check.due("all sorts full", Check.town(x, all), 33);
        Check.due("the last sorrow", x.sorrow(13, 0) * 10000 + x.sorrow(13, 1) * 10 + x.sorrow(13, 3), 61990);
        Check.due("the last person", x.person(6, 2), 14);
        Check.due("the last umbrella", x.umbrella(5, 3), 60);
        Check.due("the last place", x.place(4, 1), 63);
        Check.dueThrown("person(7, 0)", () -> x.person(7, 0));
        Check.dueThrown("sorrow(14, 0)", () -> x.sorrow(14, 0));
        Check.dueThrown("umbrella(6, 0)", () -> x.umbrella(6, 0));
        Check.due("place(5, 0)", x.place(5, 0), -1);
    }

    private static String padded(String text, int length) {
        return text + " ".repeat(length - text.length());
    }

    private static String behind(int blanks, String text) {
        return " ".repeat(blanks) + text;
    }

    private static void townBytes() {
        wholeTown(padded("place a;", 899), 1);
        wholeTown(padded("place a;", 900), 1);
        wrongTown(padded("place a;", 901), 900, 1);
        wrongTown(padded("place a;", 940), 900, 1);
        wholeTown(behind(892, "place a;"), 1);
        wrongTown(behind(893, "place a;"), 900, 1);
        wrongTown(behind(900, ";"), 900, 1);
        wrongTown(behind(899, ";"), 899, 1);
        wrongTown(behind(899, ";;"), 899, 1);
        wholeTown("", 0);
        wholeTown(padded("", 900), 0);
        wrongTown(padded("", 901), 900, 1);
        // tokens that begin ahead of byte 900 are read whole, those at it are not read
        wrongTown(behind(893, "place a"), 900, 1);
        wrongTown(behind(892, "place a"), 899, 1);
        wrongTown(behind(893, "place abcdefg;"), 900, 1);
        wrongTown(behind(893, "place abcdefgh;"), 899, 1);
        wrongTown(behind(893, "place a1;"), 899, 1);
        wrongTown(behind(893, "place number;"), 899, 1);
        wrongTown(behind(894, "place number;"), 900, 1);
        wrongTown(behind(895, "far 999;"), 899, 2);
        wrongTown(behind(895, "far 001;"), 900, 1);
        wrongTown(behind(896, "far 999;"), 900, 1);
        wrongTown(padded("place ab;", 893) + "place ab;", 899, 3);
        wrongTown(padded("place ab;", 894) + "place ab;", 900, 1);
        wrongTown(padded("place a;place b;place c;place d;place e;", 899) + "place f;", 899, 4);
        wrongTown(padded("place a;place b;place c;place d;place e;", 900) + "place f;", 900, 1);
        // a fault ahead of it comes first
        wrongTown(padded("place;", 940), 5, 1);
        wrongTown(padded("place", 899), 899, 1);
        wrongTown(padded("place", 900), 900, 1);
        wrongTown(padded("place", 901), 900, 1);
    }

    private static void promise04() {
        wrongTown("place", 5, 1);
        wrongTown("place ", 6, 1);
        wrongTown("place a", 7, 1);
        wrongTown("person", 6, 1);
        wrongTown("place l;person p", 16, 1);
        wrongTown("place l;person p l", 18, 1);
        wrongTown("place l;person p l heeds", 24, 1);
        wrongTown("place l;person p l;sorrow", 25, 1);
        wrongTown("place l;person p l;sorrow p", 27, 1);
        wrongTown("place l;person p l;sorrow p 1", 29, 1);
        wrongTown("place l;person p l;sorrow p 1 1", 31, 1);
        wrongTown("place l;brolly u l", 18, 1);
        wrongTown("far", 3, 1);
        wrongTown("far 1", 5, 1);
        wrongTown(";", 0, 1);
        wrongTown("heeds;", 0, 1);
        // a line that ends too soon, with a whole one behind it
        String[] parts = {"place", "person", "person x", "sorrow", "sorrow p", "sorrow p 1", "brolly", "brolly x",
            "brolly x l", "far"};
        for (String part : parts) {
            wrongTown("place l;person p l;" + part + ";place m;", 19 + part.length(), 1);
            wrongTown("place l;person p l;" + part + " ;", 20 + part.length(), 1);
        }
        // a town that is whole takes the place of all that was: day, acts, sentence, what could be undone
        FuneralUmbrellas x = Check.of(SMALL);
        x.take(0, 0);
        x.funeral(0);
        x.days(3);
        Check.sentence(x, "heeds");
        Check.due("a new town", Check.town(x, SMALL), 5);
        Check.due("as if it were the first", Check.all(x).equals(Check.all(Check.of(SMALL))), true);
        Check.due("nothing can be undone", x.undo(), -1);
        smallerBehindFull();
    }

    /** Nothing is left of a town that had the most of all, nor of one that had a fault. */
    private static void smallerBehindFull() {
        String full = lines("", "place l", ";", 5) + lines("", "person p", " la heeds;", 7)
                + lines("", "brolly u", " la 12;", 6) + lines("", "sorrow pa 5 20", ";", 14) + "far 5;";
        String[] small = {"", "place x;", SMALL, "place x;person y x;sorrow y 5 1;", "place x;person y x;brolly z x 2;",
            "place x;place y;person z y;person w y;sorrow w 9 9;sorrow z 2 2;brolly v x 3;"};
        for (String text : small) {
            FuneralUmbrellas x = Check.of(full);
            FuneralUmbrellas fresh = new FuneralUmbrellas();
            x.days(3);
            Check.town(x, full + "far 5;");
            Check.due("a small town behind a full one", Check.town(x, text), Check.town(fresh, text));
            for (int i = 0; i < 6; i++) {
                Check.due("as in a fresh object", Check.all(x).equals(Check.all(fresh)), true);
                Check.due("sorry(199)", x.sorry(199), fresh.sorry(199));
                Check.due("weeps(60)", x.weeps(60), fresh.weeps(60));
                Check.due("cover()", x.cover(), fresh.cover());
                Check.due("hiding()", x.hiding(), fresh.hiding());
                Check.due("toldOf(0, 2)", x.toldOf(0, 2), fresh.toldOf(0, 2));
                Check.due("turns(0, 0, 2)", x.turns(0, 0, 2), fresh.turns(0, 0, 2));
                Check.due("odds(0, 9, 9)", x.odds(0, 9, 9), fresh.odds(0, 9, 9));
                Check.due("drawn(2, 6)", x.drawn(2, 6), fresh.drawn(2, 6));
            }
        }
    }

    // ---- a book

    private static void bookEdges() {
        for (int n = 0; n <= 62; n++) {
            if (n >= 1 && n <= 60) {
                wholeBook("day " + n + ";");
            } else {
                wrongBook("day " + n + ";", 4, 2);
            }
        }
        wrongBook("day 999;", 4, 2);
        wrongBook("day 0060;", 4, 1);
        wholeBook("day 060;");
        wholeBook("");
        wholeBook(" ");
        wholeBook("p goes m;");
        wholeBook("p takes u;p leaves u;funeral l;");
        wrongBook("p", 1, 1);
        wrongBook("p goes", 6, 1);
        wrongBook("p goes m", 8, 1);
        wrongBook("funeral", 7, 1);
        wrongBook("funeral l", 9, 1);
        wrongBook("day", 3, 1);
        wrongBook("day 1", 5, 1);
        wrongBook("day 1;;", 6, 1);
        for (String part : new String[] {"p", "p goes", "p takes", "p leaves", "funeral", "day"}) {
            wrongBook(part + ";day 1;", part.length(), 1);
            wrongBook("day 1;" + part + " ;", 7 + part.length(), 1);
        }
        for (String word : KEPT) {
            wrongBook("p goes " + word + ";", 7, 1);
            wrongBook("p takes " + word + ";", 8, 1);
            wrongBook("p leaves " + word + ";", 9, 1);
            wrongBook("funeral " + word + ";", 8, 1);
            if (!word.equals("goes") && !word.equals("takes") && !word.equals("leaves")) {
                wrongBook("p " + word + " l;", 2, 1);
            }
            if (!word.equals("funeral") && !word.equals("day")) {
                wrongBook(word + " goes l;", 0, 1);
            }
        }
        for (String name : new String[] {"p", "u", "zz"}) {
            wrongBook("p goes " + name + ";", 7, 3);
            wrongBook("funeral " + name + ";", 8, 3);
        }
        for (String name : new String[] {"p", "l", "zz"}) {
            wrongBook("p takes " + name + ";", 8, 3);
            wrongBook("p leaves " + name + ";", 9, 3);
        }
        for (String name : new String[] {"l", "u", "zz"}) {
            wrongBook(name + " goes l;", 0, 3);
            wrongBook(name, 0, 3);
        }
        Check.due("names of the town that there is", Check.book(new FuneralUmbrellas(), "p goes l;", 0), -2);
    }

    private static void bookMost() {
        String forty = "day 1;".repeat(40);
        wholeBook("day 1;".repeat(39));
        wholeBook(forty);
        wholeBook(forty + " ");
        wrongBook(forty + "day 1;", 240, 4);
        wrongBook(forty + " \nday", 242, 4);
        wrongBook(forty + "p", 240, 4);
        wrongBook(forty + "funeral 7", 240, 4);
        wrongBook(forty + "zz", 240, 3);
        wrongBook(forty + "l goes m;", 240, 3);
        wrongBook(forty + "heeds", 240, 1);
        wrongBook(forty + ";", 240, 1);
        wrongBook("day 1;".repeat(39) + "day 61;day 1;", 238, 2);
    }

    private static void bookBytes() {
        wholeBook(padded("day 1;", 400));
        wrongBook(padded("day 1;", 401), 400, 1);
        wrongBook(padded("day 1;", 940), 400, 1);
        wholeBook(behind(394, "day 1;"));
        wrongBook(behind(395, "day 1;"), 400, 1);
        wrongBook(behind(394, "day 1"), 399, 1);
        wrongBook(behind(395, "day 1"), 400, 1);
        wrongBook(behind(395, "day 61;"), 399, 2);
        wrongBook(behind(396, "day 61;"), 400, 1);
        wrongBook(behind(399, "zz"), 399, 3);
        wrongBook(behind(400, "zz"), 400, 1);
        wrongBook(padded("day 1;".repeat(40), 399) + "day", 399, 4);
        wrongBook(padded("day 1;".repeat(40), 400) + "day", 400, 1);
        wrongBook(padded("day 0;", 401), 4, 2);
    }

    // ---- a sentence

    private static void sentenceEdges() {
        wrongSentence("", 0, 1);
        wrongSentence("\n", 1, 1);
        for (String word : KEPT) {
            boolean plain = word.equals("heeds") || word.equals("alone") || word.equals("meant");
            boolean begins = plain || word.equals("not") || word.equals("at") || word.equals("with")
                    || word.equals("ahead") || word.equals("wept") || word.equals("number");
            if (plain) {
                wholeSentence(word, 1);
                wholeSentence("not " + word, 2);
                wholeSentence("(" + word + ")", 2);
            } else {
                wrongSentence(word, begins ? word.length() : 0, 1);
                wrongSentence(word + ";", begins ? word.length() : 0, 1);
            }
            wrongSentence("at " + word, 3, 1);
            wrongSentence("with " + word, 5, 1);
            if (!word.equals("and") && !word.equals("or")) {
                wrongSentence("heeds " + word, 6, 1);
            }
        }
        for (String what : new String[] {"ahead", "wept", "number"}) {
            int at = what.length();
            wholeSentence(what + "<0", 1);
            wholeSentence(what + " = 999", 1);
            wholeSentence(what + ">\n000", 1);
            wrongSentence(what + ">1000", at + 1, 1);
            wrongSentence(what + ">", at + 1, 1);
            wrongSentence(what + ">heeds", at + 1, 1);
            wrongSentence(what + "1", 0, 1);
            wrongSentence(what + " 1", at + 1, 1);
            wrongSentence(what + "(1", at, 1);
            wrongSentence(what + ";1", at, 1);
        }
        for (String name : new String[] {"p", "u", "zz"}) {
            wrongSentence("at " + name, 3, 3);
        }
        for (String name : new String[] {"p", "l", "zz"}) {
            wrongSentence("with " + name, 5, 3);
        }
        wrongSentence("p", 0, 1);
        wrongSentence("5", 0, 1);
        wrongSentence("()", 1, 1);
        wrongSentence("(heeds", 6, 1);
        wrongSentence("heeds)", 5, 1);
        wrongSentence("not)", 3, 1);
        wrongSentence("(not)", 4, 1);
        wrongSentence("heeds and", 9, 1);
        wrongSentence("heeds or ", 9, 1);
        wrongSentence("(heeds or)", 9, 1);
        wrongSentence("(heeds;)", 6, 1);
    }

    private static void sentenceMost() {
        String twenty = "heeds" + " or heeds".repeat(19);
        wholeSentence(twenty, 20);
        wrongSentence(twenty + " or heeds", twenty.length() + 4, 4);
        wrongSentence(twenty + " or not", twenty.length() + 4, 4);
        wrongSentence(twenty + " or (", twenty.length() + 4, 4);
        wrongSentence(twenty + " or at zz", twenty.length() + 4, 4);
        wrongSentence(twenty + " or ;", twenty.length() + 4, 1);
        wrongSentence(twenty + " or", twenty.length() + 3, 1);
        // each not and each bracket is one
        wholeSentence("(not heeds)" + " and(not heeds)".repeat(5) + " and not heeds", 20);
        wrongSentence("(not heeds)" + " and(not heeds)".repeat(5) + " and not (heeds)", 11 + 15 * 5 + 10, 4);
        wholeSentence("not ".repeat(7) + "heeds", 8);
        wrongSentence("not ".repeat(8) + "heeds", 32, 4);
        wholeSentence("(".repeat(7) + "heeds" + ")".repeat(7), 8);
        wrongSentence("(".repeat(8) + "heeds" + ")".repeat(8), 8, 4);
        wrongSentence("(".repeat(8) + "not heeds" + ")".repeat(8), 8, 4);
        wrongSentence("(".repeat(9), 8, 4);
        wrongSentence("(".repeat(8), 8, 1);
        wrongSentence("(".repeat(8) + ")", 8, 1);
        wholeSentence("not(not(not(not heeds)))", 8);
        wrongSentence("not(not(not(not not heeds)))", 20, 4);
        // ones side by side are not within one another, and what is closed is left
        wholeSentence("(".repeat(7) + "heeds and alone or meant" + ")".repeat(7), 10);
        wholeSentence("(".repeat(7) + "heeds" + ")".repeat(7) + " or " + "not ".repeat(7) + "alone", 16);
        wrongSentence("(".repeat(7) + "heeds" + ")".repeat(7) + " or " + "not ".repeat(8) + "alone", 55, 4);
        wholeSentence("(".repeat(6) + "not heeds or alone" + ")".repeat(6), 9);
        wholeSentence("(".repeat(6) + "alone or not heeds" + ")".repeat(6), 9);
        wrongSentence("(".repeat(6) + "alone or not not heeds" + ")".repeat(6), 23, 4);
    }

    private static void sentenceBytes() {
        wholeSentence(padded("heeds", 200), 1);
        wrongSentence(padded("heeds", 201), 200, 1);
        wrongSentence(padded("heeds", 940), 200, 1);
        wholeSentence(behind(195, "heeds"), 1);
        wrongSentence(behind(196, "heeds"), 200, 1);
        wrongSentence(behind(199, "heeds"), 200, 1);
        wrongSentence(behind(200, "heeds"), 200, 1);
        wrongSentence(behind(199, "zz"), 199, 1);
        wrongSentence(behind(200, "zz"), 200, 1);
        wrongSentence(behind(196, "at zz"), 199, 3);
        wrongSentence(behind(197, "at zz"), 200, 1);
        wrongSentence(behind(192, "number<999"), 200, 1);
        wrongSentence(behind(192, "number<9999"), 199, 1);
        wrongSentence(padded("(heeds", 200), 200, 1);
        wrongSentence(padded("(heeds", 200) + ")", 200, 1);
        wrongSentence(padded("heeds" + " or heeds".repeat(19) + " or", 199) + "alone", 199, 4);
    }

    // ---- which fault it is

    private static void leastOfOneToken() {
        // a word that can't come is 1, also where a name that is not told would be 3 or a line too many 4
        wrongTown("place l;person p heeds;", 17, 1);
        wrongTown("place a;place b;place c;place d;place e;places f;", 40, 1);
        wrongBook("day 1;".repeat(40) + "goes", 240, 1);
        wrongBook("day 1;".repeat(40) + "u", 240, 3);
        wrongSentence("(".repeat(8) + "and", 8, 1);
        wrongSentence("heeds" + " or heeds".repeat(19) + " or zz", 180, 1);
        wrongTown("far 1;far 9;", 6, 3);
    }

    private static void firstAlongTheText() {
        wrongTown("place l;person p l;sorrow p 0 0;place l;", 28, 2);
        wrongTown("place l;place l;far 9;", 14, 3);
        wrongTown("place l;far 9;place l;", 12, 2);
        wrongTown("place l;far 2 place l;", 14, 1);
        wrongBook("day 61;zz goes l;", 4, 2);
        wrongBook("zz goes l;day 61;", 0, 3);
        wrongSentence("at zz or (", 3, 3);
        wrongSentence("or at zz", 0, 1);
    }

    private static void promise05() {
        FuneralUmbrellas x = new FuneralUmbrellas();
        Check.due("ahead of any", x.fault(), 0);
        x.book(2);
        Check.due("book(2) leaves it", x.fault(), 0);
        Check.town(x, "place");
        Check.due("of a town", x.fault(), 1);
        Check.town(x, SMALL);
        Check.due("without one", x.fault(), 0);
        Check.book(x, "day 0;", 1);
        Check.due("of a book", x.fault(), 2);
        Check.due("book(-1)", x.book(-1), -1000);
        Check.due("it is left", x.fault(), 2);
        x.go(0, 1);
        x.days(1);
        x.meant();
        x.far();
        Check.due("other calls leave it", x.fault(), 2);
        Check.book(x, "p goes p;", 0);
        Check.due("of a judged book", x.fault(), 3);
        Check.book(x, "p goes m;", 0);
        Check.due("a wrong line is no fault", x.fault(), 0);
        Check.sentence(x, "(".repeat(9));
        Check.due("of a sentence", x.fault(), 4);
        Check.sentence(x, "heeds");
        Check.due("without one", x.fault(), 0);
    }
}
