/** Promises 32 and 33: tags. */
final class TagTest {
    private static final String TOWN = "place home;place cemetry;person ann home;person abcdefg home;sorrow ann 5 3;"
            + "brolly old home 3;brolly ragzzzz cemetry 0;brolly z cemetry 12;";

    private static void dueTag(FuneralUmbrellas x, int u, String due) {
        Check.due("tag(" + u + ") is '" + Check.tag(x, u) + "'", Check.tag(x, u).equals(due), true);
        Check.due("its length", x.tag(u), due.length());
        Check.due("no byte behind it", x.byteAt(due.length()), -1);
        Check.due("no byte ahead of it", x.byteAt(-1), -1);
    }

    public static void main(String[] args) {
        FuneralUmbrellas x = Check.of(TOWN);
        Check.due("byteAt(0) ahead of any", x.byteAt(0), -1);
        Check.due("tag(3)", x.tag(3), -1);
        Check.due("tag(-1)", x.tag(-1), -1);
        dueTag(x, 0, "old is open at home");
        dueTag(x, 1, "ragzzzz is shut at cemetry");
        dueTag(x, 2, "z is open at cemetry");
        x.take(0, 0);
        dueTag(x, 0, "old is open with ann");
        x.days(5);
        dueTag(x, 0, "old is shut with ann");
        x.go(1, 1);
        x.take(1, 1);
        dueTag(x, 1, "ragzzzz is shut with abcdefg");
        x.go(1, 0);
        dueTag(x, 1, "ragzzzz is shut with abcdefg");
        x.leave(1, 1);
        dueTag(x, 1, "ragzzzz is shut at home");
        // a tag that is none leaves the latest, and so does a new town
        Check.due("tag(7)", x.tag(7), -1);
        Check.town(x, "place a;");
        Check.due("byteAt(0)", x.byteAt(0), 'r');
        Check.due("byteAt(22)", x.byteAt(22), 'e');
        Check.due("byteAt(23)", x.byteAt(23), -1);
        Check.finish("TagTest");
    }
}
