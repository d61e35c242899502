import java.util.Random;

/** Towns by chance, for tests that compare with a plainer reckoning. */
final class Towns {
    private Towns() {
    }

    static String text(Random random) {
        int places = 1 + random.nextInt(5);
        int persons = random.nextInt(8);
        int umbrellas = random.nextInt(7);
        int sorrows = persons == 0 ? 0 : random.nextInt(15);
        int days = random.nextBoolean() ? 12 : 60;
        StringBuilder text = new StringBuilder();
        for (int l = 0; l < places; l++) {
            text.append("place l").append((char) ('a' + l)).append(";");
        }
        for (int p = 0; p < persons; p++) {
            text.append("person p").append((char) ('a' + p)).append(" l").append((char) ('a' + random.nextInt(places)));
            text.append(random.nextBoolean() ? " heeds;" : ";");
        }
        for (int s = 0; s < sorrows; s++) {
            text.append("sorrow p").append((char) ('a' + random.nextInt(persons))).append(' ');
            text.append(1 + random.nextInt(days)).append(' ').append(1 + random.nextInt(20)).append(";");
        }
        for (int u = 0; u < umbrellas; u++) {
            text.append("brolly u").append((char) ('a' + u)).append(" l").append((char) ('a' + random.nextInt(places)));
            text.append(' ').append(random.nextInt(random.nextInt(4) == 0 ? 13 : 5)).append(";");
        }
        if (random.nextBoolean()) {
            text.append("far ").append(1 + random.nextInt(5)).append(";");
        }
        return text.toString();
    }

    /** A few acts by chance, so that umbrellas are carried and days are past. */
    static void stir(FuneralUmbrellas x, Random random) {
        int acts = random.nextInt(12);
        for (int i = 0; i < acts; i++) {
            switch (random.nextInt(6)) {
                case 0: x.go(random.nextInt(7), random.nextInt(5)); break;
                case 1: case 2: x.take(random.nextInt(7), random.nextInt(6)); break;
                case 3: x.leave(random.nextInt(7), random.nextInt(6)); break;
                case 4: x.funeral(random.nextInt(5)); break;
                default: x.days(1 + random.nextInt(3)); break;
            }
        }
    }
}
