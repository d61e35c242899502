/** Promises 6 to 10: what is so in a town; 17 and 18: who will be sorry. */
final class TownTest {
    private static final String TOWN = "place home;place club;place zoo;person ann home heeds;person bob club;"
            + "person cid club;sorrow ann 5 3;sorrow bob 2 7;sorrow ann 30 4;sorrow cid 12 1;brolly old home 3;"
            + "brolly new club 0;brolly rag zoo 12;";

    public static void main(String[] args) {
        persons();
        umbrellas();
        sorrows();
        places();
        now();
        edgesOfReach();
        whoWillBeSorry();
        Check.finish("TownTest");
    }

    private static void persons() {
        FuneralUmbrellas x = Check.of(TOWN);
        int[][] due = {{0, 1, 2, 0, 0, 1, 1}, {1, 0, 1, 0, 0, 0, 0}, {1, 0, 1, 0, 0, 0, 0}};
        for (int p = 0; p < 3; p++) {
            for (int what = 0; what < 7; what++) {
                Check.due("person(" + p + ", " + what + ")", x.person(p, what), due[p][what]);
            }
        }
        Check.dueThrown("person(3, 0)", () -> x.person(3, 0));
        Check.dueThrown("person(-1, 0)", () -> x.person(-1, 0));
        Check.dueThrown("person(0, 7)", () -> x.person(0, 7));
        Check.dueThrown("person(0, -1)", () -> x.person(0, -1));
        x.take(1, 1);
        x.go(2, 2);
        x.take(2, 2);
        x.go(2, 1);
        Check.due("what cid carries", x.person(2, 4), 4);
        Check.due("what bob carries", x.person(1, 4), 2);
        Check.due("what opens for bob", x.person(1, 5), 4);
        Check.due("what opens for cid", x.person(2, 5), 4);
        x.days(2);
        Check.due("bob wept", x.person(1, 3), 7);
        Check.due("nothing is ahead of bob", x.person(1, 2), 0);
        Check.due("nothing opens for bob", x.person(1, 5), 0);
    }

    private static void umbrellas() {
        FuneralUmbrellas x = Check.of(TOWN);
        int[][] due = {{0, -1, 3, 6, 1, 1}, {1, -1, 0, 0, 0, 0}, {2, -1, 12, 24, 1, 0}};
        for (int u = 0; u < 3; u++) {
            for (int what = 0; what < 6; what++) {
                Check.due("umbrella(" + u + ", " + what + ")", x.umbrella(u, what), due[u][what]);
            }
        }
        Check.dueThrown("umbrella(3, 0)", () -> x.umbrella(3, 0));
        Check.dueThrown("umbrella(-1, 0)", () -> x.umbrella(-1, 0));
        Check.dueThrown("umbrella(0, 6)", () -> x.umbrella(0, 6));
        Check.dueThrown("umbrella(0, -1)", () -> x.umbrella(0, -1));
        x.take(0, 0);
        x.go(0, 1);
        Check.due("it is where he is", x.umbrella(0, 0), 1);
        Check.due("he carries it", x.umbrella(0, 1), 0);
        Check.due("for whom it opens", x.umbrella(0, 5), 3);
    }

    private static void sorrows() {
        FuneralUmbrellas x = Check.of(TOWN);
        int[][] due = {{0, 5, 3, 0}, {1, 2, 7, 0}, {0, 30, 4, 0}, {2, 12, 1, 0}};
        for (int s = 0; s < 4; s++) {
            for (int what = 0; what < 4; what++) {
                Check.due("sorrow(" + s + ", " + what + ")", x.sorrow(s, what), due[s][what]);
            }
        }
        Check.dueThrown("sorrow(4, 0)", () -> x.sorrow(4, 0));
        Check.dueThrown("sorrow(-1, 0)", () -> x.sorrow(-1, 0));
        Check.dueThrown("sorrow(0, 4)", () -> x.sorrow(0, 4));
        Check.dueThrown("sorrow(0, -1)", () -> x.sorrow(0, -1));
        x.days(1);
        Check.due("spared", x.sorrow(0, 3), 1);
        Check.due("a day ahead", x.sorrow(1, 3), 0);
        x.days(1);
        Check.due("on its day it befell", x.sorrow(1, 3), 2);
        x.days(60);
        Check.due("spared for ever", x.sorrow(0, 3), 1);
        Check.due("it befell", x.sorrow(3, 3), 2);
    }

    private static void places() {
        FuneralUmbrellas x = Check.of(TOWN);
        Check.due("place(0, 0)", x.place(0, 0), 1);
        Check.due("place(1, 0)", x.place(1, 0), 6);
        Check.due("place(2, 0)", x.place(2, 0), 0);
        Check.due("place(0, 1)", x.place(0, 1), 1);
        Check.due("place(2, 1)", x.place(2, 1), 4);
        Check.due("place(3, 0)", x.place(3, 0), -1);
        Check.due("place(-1, 0)", x.place(-1, 0), -1);
        Check.due("place(0, 2)", x.place(0, 2), -1);
        Check.due("place(0, -1)", x.place(0, -1), -1);
        x.take(0, 0);
        x.go(0, 2);
        Check.due("carried ones, too", x.place(2, 1), 5);
        Check.due("it is no more there", x.place(0, 1), 0);
        Check.due("he is there", x.place(2, 0), 1);
    }

    private static void now() {
        FuneralUmbrellas x = Check.of(TOWN);
        int[] due = {0, 5, 0, 1, 4, 0, 0, 0};
        for (int what = 0; what < 8; what++) {
            Check.due("now(" + what + ")", x.now(what), due[what]);
        }
        Check.due("now(8)", x.now(8), -1);
        Check.due("now(-1)", x.now(-1), -1);
        x.take(1, 1);
        x.funeral(1);
        x.funeral(1);
        x.funeral(1);
        x.days(3);
        // ann is spared of the first sorrow, bob's befell
        int[] then = {3, 4, 2, 0, 2, 1, 7, 3};
        for (int what = 0; what < 8; what++) {
            Check.due("then now(" + what + ")", x.now(what), then[what]);
        }
    }

    private static void edgesOfReach() {
        FuneralUmbrellas x = Check.of("place l;person p l;sorrow p 7 1;brolly u l 3;brolly w l 11;brolly o l 0;far 2;");
        Check.due("seven days are beyond six", x.umbrella(0, 4), 0);
        Check.due("not beyond 22", x.umbrella(1, 5), 1);
        x.days(1);
        Check.due("six days are not", x.umbrella(0, 4), 1);
        x.days(5);
        Check.due("a day ahead", x.person(0, 5), 3);
        x.days(1);
        Check.due("that day itself is past", x.person(0, 5), 0);
        Check.due("it is shut", x.now(1), 0);
        x.funeral(0);
        Check.due("twelve funerals: open", x.now(1), 2);
        Check.due("for nobody", x.umbrella(1, 5), 0);
        Check.due("far is 2 without a line", Check.of("place l;").count(4), 2);
    }

    private static void whoWillBeSorry() {
        FuneralUmbrellas x = Check.of(TOWN);
        Check.due("next(0)", x.next(0), 5);
        Check.due("next(2)", x.next(2), 12);
        Check.due("next(3)", x.next(3), -1);
        Check.due("next(-1)", x.next(-1), -1);
        Check.due("sorry(1)", x.sorry(1), 0);
        Check.due("sorry(2)", x.sorry(2), 2);
        Check.due("sorry(4)", x.sorry(4), 2);
        Check.due("sorry(5)", x.sorry(5), 3);
        Check.due("sorry(12)", x.sorry(12), 7);
        Check.due("sorry(199)", x.sorry(199), 7);
        Check.due("sorry(0)", x.sorry(0), -1);
        Check.due("sorry(200)", x.sorry(200), -1);
        x.days(1);
        Check.due("the first is spared", x.next(0), 30);
        Check.due("from now on", x.sorry(1), 2);
        Check.due("spared ones are not ahead", x.sorry(28), 6);
        Check.due("not spared yet", x.sorry(29), 7);
        x.days(1);
        Check.due("none for bob", x.next(1), -1);
    }
}
