/** Promises 40 and 41: images. */
final class ImageTest {
    private static final String TOWN = "place home;place club;place zoo;person ann home heeds;person bob club;"
            + "person cid club;sorrow ann 5 3;sorrow bob 2 7;sorrow ann 30 4;sorrow cid 12 1;brolly old home 3;"
            + "brolly new club 0;brolly rag zoo 12;far 3;";

    public static void main(String[] args) {
        FuneralUmbrellas x = new FuneralUmbrellas();
        Check.due("image(2)", x.image(2), false);
        Check.due("image(-1)", x.image(-1), false);
        Check.due("restore(2)", x.restore(2), false);
        Check.due("restore(-1)", x.restore(-1), false);
        Check.due("restore(0)", x.restore(0), false);
        Check.due("image(1) of an empty town", x.image(1), true);
        Check.due("restore(0), nothing there", x.restore(0), false);
        String empty = Check.all(x);
        Check.town(x, TOWN);
        x.take(0, 0);
        x.go(0, 1);
        x.funeral(1);
        x.days(3);
        Check.sentence(x, "at club and with old");
        String first = Check.all(x);
        String tag = Check.tag(x, 0);
        Check.due("image(0)", x.image(0), true);
        Check.due("acts can be undone still", x.undo(), 3);
        x.undo();
        Check.due("all is as kept", x.restore(0) && Check.all(x).equals(first), true);
        Check.due("its names, too", Check.tag(x, 0).equals(tag), true);
        Check.due("whose sentence it is", x.said(0), 0);
        Check.due("nothing can be undone", x.undo(), -1);
        Check.town(x, "place a;person b a;brolly c a 1;");
        Check.sentence(x, "heeds");
        x.go(0, 0);
        Check.feed(x, "day 1;");
        Check.due("restore(1), the empty town", x.restore(1), true);
        Check.due("it is empty", Check.all(x).equals(empty), true);
        Check.due("the tape stays", x.count(5), 6);
        Check.due("no sentence was there", x.said(-1), -1);
        Check.due("restore(0)", x.restore(0), true);
        Check.due("all is as kept", Check.all(x).equals(first), true);
        Check.due("the tape can be judged", x.book(1), -1);
        Check.due("day 4", x.now(0), 4);
        Check.due("restore(0) again", x.restore(0) && Check.all(x).equals(first), true);
        whatStays(x);
        Check.finish("ImageTest");
    }

    private static void whatStays(FuneralUmbrellas x) {
        Check.book(x, "day 9;", 0);
        Check.sentence(x, "zz");
        x.hiding();
        x.tag(2);
        Check.due("restore(1)", x.restore(1), true);
        Check.due("fault() stays", x.fault(), 1);
        Check.due("told(2) stays", x.told(2), 12);
        Check.due("hidden(0) stays", x.hidden(0), 1);
        Check.due("byteAt(0) stays", x.byteAt(0), 'r');
        Check.due("image(0) is kept anew", x.image(0), true);
        x.restore(0);
        Check.due("no places", x.count(0), 0);
        Check.due("far", x.count(4), 2);
    }
}
