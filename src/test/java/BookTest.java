/** Promises 36 and 37: books. Their faults are in TextTest. */
final class BookTest {
    private static final String TOWN = "place home;place club;place zoo;person ann home heeds;person bob club;"
            + "person cid club;sorrow ann 5 3;sorrow bob 2 7;sorrow ann 30 4;sorrow cid 12 1;brolly old home 3;"
            + "brolly new club 0;brolly rag zoo 12;";

    public static void main(String[] args) {
        aheadOfAny();
        judged();
        lived();
        whyWrong();
        latest();
        emptyOnes();
        Check.finish("BookTest");
    }

    private static void dueTold(FuneralUmbrellas x, int why, int right, int day, int open) {
        Check.due("told(0)", x.told(0), why);
        Check.due("told(1)", x.told(1), right);
        Check.due("told(2)", x.told(2), day);
        Check.due("told(3)", x.told(3), open);
        Check.due("told(4)", x.told(4), -1);
        Check.due("told(-1)", x.told(-1), -1);
    }

    private static void aheadOfAny() {
        FuneralUmbrellas x = Check.of(TOWN);
        dueTold(x, -1, -1, -1, -1);
        x.book(2);
        Check.book(x, "zz", 0);
        dueTold(x, -1, -1, -1, -1);
    }

    private static void judged() {
        FuneralUmbrellas x = Check.of(TOWN);
        String before = Check.all(x);
        Check.due("judged", Check.book(x, "ann takes old;ann goes club;day 2;", 0), -1);
        dueTold(x, 0, 3, 2, 5);
        Check.due("all stays", Check.all(x).equals(before), true);
        Check.due("nothing is kept", x.undo(), -1);
        Check.due("judged wrong", Check.book(x, "day 1; ann goes zoo;\nann goes zoo;day 1;", 0), 2);
        dueTold(x, 1, 2, 1, 4);
        Check.due("all stays", Check.all(x).equals(before), true);
    }

    private static void lived() {
        FuneralUmbrellas x = Check.of(TOWN);
        FuneralUmbrellas y = Check.of(TOWN);
        Check.due("lived", Check.book(x, "ann takes old;ann goes club;funeral club;day 2;ann leaves old;", 1), -1);
        y.take(0, 0);
        y.go(0, 1);
        y.funeral(1);
        y.days(2);
        y.leave(0, 0);
        Check.due("as if done", Check.all(x).equals(Check.all(y)), true);
        dueTold(x, 0, 5, 2, 5);
        Check.due("lived as far as not wrong", Check.book(x, "bob goes zoo;bob takes rag;bob takes rag;day 9;", 1), 2);
        y.go(1, 2);
        y.take(1, 2);
        Check.due("as if done", Check.all(x).equals(Check.all(y)), true);
        dueTold(x, 12, 2, 2, 5);
        Check.due("undone whole", x.undo(), 1);
        Check.due("undone whole", x.undo(), 0);
        Check.due("as at first", Check.all(x).equals(Check.all(Check.of(TOWN))), true);
    }

    private static void whyWrong() {
        String[] books = {"ann goes home;", "ann takes new;", "bob takes new;cid takes new;", "ann leaves old;",
            "ann takes old;ann goes zoo;funeral home;", "day 60;day 60;day 60;day 21;"};
        int[] why = {1, 11, 12, 21, 31, 41};
        int[] line = {0, 0, 1, 0, 2, 3};
        for (int i = 0; i < books.length; i++) {
            FuneralUmbrellas x = Check.of(TOWN);
            Check.due(books[i], Check.book(x, books[i], 0), line[i]);
            Check.due("why " + books[i], x.told(0), why[i]);
            Check.due("right of " + books[i], x.told(1), line[i]);
        }
        FuneralUmbrellas x = Check.of(TOWN);
        Check.due("days to the last", Check.book(x, "day 60;day 60;day 60;day 20;", 1), -1);
        Check.due("day 200", x.told(2), 200);
        Check.due("one too many", Check.book(x, "day 1;", 1), 0);
        Check.due("why", x.told(0), 41);
        Check.due("taking what is carried elsewhere", Check.book(Check.of(TOWN), "bob takes new;ann takes new;", 0), 1);
    }

    private static void latest() {
        FuneralUmbrellas x = Check.of(TOWN);
        Check.book(x, "day 7;", 0);
        dueTold(x, 0, 1, 7, 4);
        Check.book(x, "day 700;", 0);
        x.book(5);
        dueTold(x, 0, 1, 7, 4);
        Check.town(x, "place a;");
        dueTold(x, 0, 1, 7, 4);
    }

    private static void emptyOnes() {
        FuneralUmbrellas x = Check.of(TOWN);
        Check.due("an empty book", Check.book(x, "", 0), -1);
        dueTold(x, 0, 0, 0, 5);
        Check.due("blanks alone", Check.book(x, " \n", 1), -1);
        dueTold(x, 0, 0, 0, 5);
        // by the plain words a book that was lived is undone, even if no line of it went
        Check.due("it was lived", x.undo(), 0);
    }
}
