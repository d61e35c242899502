import java.util.NoSuchElementException;

/**
 * A town whose umbrellas remember funerals: they open of themselves near one who will be sorry soon.
 * The document DOC.md says what each call promises; the words of its "Terms" are the words used here.
 *
 * <p>All rows are made in constructors and used again, because everything that a run makes is counted.
 */
public final class FuneralUmbrellas {
    public static final int NONE = -1;

    private static final int MOST_PLACES = 5;
    private static final int MOST_PERSONS = 7;
    private static final int MOST_SORROWS = 14;
    private static final int MOST_UMBRELLAS = 6;
    private static final int MOST_FUNERALS = 12;
    private static final int MOST_FAR = 5;
    private static final int USUAL_FAR = 2;
    private static final int LAST_DAY = 200;
    private static final int MOST_DAYS_AT_ONCE = 60;

    private static final int TAPE_BYTES = 940;
    private static final int FED_BYTES = 20;
    private static final int TOWN_BYTES = 900;
    private static final int BOOK_BYTES = 400;
    private static final int SENTENCE_BYTES = 200;
    private static final int TAG_BYTES = 28;

    private static final int NO_TOKEN = 1;
    private static final int WRONG_NUMBER = 2;
    private static final int WRONG_NAME = 3;
    private static final int TOO_MANY = 4;

    private static final int MOST_PAIRS = 8;
    private static final int MOST_TRIPLES = 6;
    private static final int MOST_TOLD_DAYS = 4;
    private static final int MOST_TURNS = 6;
    private static final int MOST_SEEDS = 30;
    private static final int ODDS_DAYS = 30;
    private static final int MOST_UNDONE = 8;
    private static final int OTHER_LIVES = -1000;

    private final Tape tape = new Tape(TAPE_BYTES);
    private final Tokens tokens = new Tokens(tape);
    private final World here = new World();
    private final Town facts = here.town;
    private final Scene scene = here.scene;
    private final World draft = new World();
    private final World[] images = new World[] {new World(), new World()};
    private final Scene trial = new Scene(facts);
    private final Scene[] past = new Scene[MOST_UNDONE];
    private int pastCount;
    private final Plans plans = new Plans(scene);
    private final Draws draws = new Draws();
    private final Book latestBook = new Book();
    private final Tape latestTag = new Tape(TAG_BYTES);
    private int sure = NONE;
    private int asked = NONE;

    public FuneralUmbrellas() {
        for (int i = 0; i < past.length; i++) {
            past[i] = new Scene(facts);
        }
    }

    // ---- the tape and the texts on it

    public int feed(int a, int b, int c, int d, int e) {
        if (tape.length + FED_BYTES > TAPE_BYTES) {
            return NONE;
        }
        tape.addNumber(a);
        tape.addNumber(b);
        tape.addNumber(c);
        tape.addNumber(d);
        tape.addNumber(e);
        return tape.length;
    }

    public boolean end(int n) {
        if (n < 0 || n > tape.length) {
            return false;
        }
        tape.length = n;
        return true;
    }

    public int town() {
        int lines = draft.town.read(tokens);
        tape.length = 0;
        if (lines == NONE) {
            return -1 - tokens.faultAt;
        }
        draft.scene.begin();
        draft.sentence.clear();
        here.copyFrom(draft);
        // the acts kept are those of another town
        pastCount = 0;
        return lines;
    }

    public int fault() {
        return tokens.fault;
    }

    // ---- what is so

    public int person(int p, int what) throws NoSuchElementException {
        if (!facts.persons.has(p) || what < 0 || what > 6) {
            throw new NoSuchElementException("no such person");
        }
        switch (what) {
            case 0: return scene.personAt[p];
            case 1: return facts.heeds(p) ? 1 : 0;
            case 2: return scene.aheadOf(p);
            case 3: return scene.weptBy(p);
            case 4: return scene.carriedBy(p);
            case 5: return scene.openersFor(p);
            default: return scene.isAlone(p) ? 1 : 0;
        }
    }

    public int umbrella(int u, int what) throws NoSuchElementException {
        if (!facts.umbrellas.has(u) || what < 0 || what > 5) {
            throw new NoSuchElementException("no such umbrella");
        }
        switch (what) {
            case 0: return scene.whereIs(u);
            case 1: return scene.carrier[u];
            case 2: return scene.funerals[u];
            case 3: return scene.reach(u);
            case 4: return scene.isOpen(u) ? 1 : 0;
            default: return scene.openedFor(u);
        }
    }

    public int sorrow(int s, int what) throws NoSuchElementException {
        if (s < 0 || s >= facts.sorrows || what < 0 || what > 3) {
            throw new NoSuchElementException("no such sorrow");
        }
        switch (what) {
            case 0: return facts.sorrowOf[s];
            case 1: return facts.sorrowDay[s];
            case 2: return facts.sorrowN[s];
            default: return scene.fate(s);
        }
    }

    public int place(int l, int what) {
        if (!facts.places.has(l) || what < 0 || what > 1) {
            return NONE;
        }
        return what == 0 ? scene.personsIn(l) : scene.umbrellasIn(l);
    }

    public int now(int what) {
        switch (what) {
            case 0: return scene.day;
            case 1: return scene.openOnes();
            case 2: return scene.carriedOnes();
            case 3: return scene.meantOnes();
            case 4: return scene.fated(Scene.AHEAD);
            case 5: return scene.fated(Scene.SPARED);
            case 6: return scene.weptByAll();
            case 7: return scene.held;
            default: return NONE;
        }
    }

    public int count(int what) {
        switch (what) {
            case 0: return facts.places.count;
            case 1: return facts.persons.count;
            case 2: return facts.sorrows;
            case 3: return facts.umbrellas.count;
            case 4: return facts.far;
            case 5: return tape.length;
            default: return NONE;
        }
    }

    // ---- acts

    public int go(int p, int l) {
        if (!facts.persons.has(p) || !facts.places.has(l)) {
            return NONE;
        }
        trial.copyFrom(scene);
        return keptAct(scene.tryGo(p, l));
    }

    public int take(int p, int u) {
        if (!facts.persons.has(p) || !facts.umbrellas.has(u)) {
            return NONE;
        }
        trial.copyFrom(scene);
        return keptAct(scene.tryTake(p, u));
    }

    public int leave(int p, int u) {
        if (!facts.persons.has(p) || !facts.umbrellas.has(u)) {
            return NONE;
        }
        trial.copyFrom(scene);
        return keptAct(scene.tryLeave(p, u));
    }

    public int funeral(int l) {
        if (!facts.places.has(l)) {
            return NONE;
        }
        trial.copyFrom(scene);
        return keptAct(scene.tryFuneral(l));
    }

    public int days(int n) {
        if (n < 1 || n > MOST_DAYS_AT_ONCE) {
            return NONE;
        }
        trial.copyFrom(scene);
        return keptDays(scene.passDays(n));
    }

    public int drawn(int n, int seed) {
        if (n < 1 || n > MOST_DAYS_AT_ONCE || facts.persons.count == 0) {
            return NONE;
        }
        trial.copyFrom(scene);
        draws.start(seed);
        return keptDays(draws.liveDays(scene, n));
    }

    public int undo() {
        if (pastCount <= 0) {
            return NONE;
        }
        pastCount--;
        scene.copyFrom(past[pastCount]);
        return pastCount;
    }

    private int keptAct(int why) {
        if (why == 0) {
            remember(trial);
        }
        return why;
    }

    private int keptDays(int passed) {
        if (passed > 0) {
            remember(trial);
        }
        return passed;
    }

    private void remember(Scene before) {
        if (pastCount >= past.length) {
            forgetOldest();
        }
        past[pastCount].copyFrom(before);
        pastCount++;
    }

    private void forgetOldest() {
        Scene oldest = past[0];
        for (int i = 1; i < past.length; i++) {
            past[i - 1] = past[i];
        }
        past[past.length - 1] = oldest;
        pastCount = past.length - 1;
    }

    // ---- who will be sorry

    public int next(int p) {
        if (!facts.persons.has(p)) {
            return NONE;
        }
        int soonest = scene.soonest(p);
        return soonest == Scene.NEVER ? NONE : scene.day + soonest;
    }

    public int sorry(int n) {
        if (n < 1 || n > LAST_DAY - 1) {
            return NONE;
        }
        int bits = 0;
        for (int p = 0; p < facts.persons.count; p++) {
            if (scene.soonest(p) <= n) {
                bits |= 1 << p;
            }
        }
        return bits;
    }

    public int weeps(int n) {
        if (n < 1 || n > MOST_DAYS_AT_ONCE) {
            return NONE;
        }
        trial.copyFrom(scene);
        trial.passDays(n);
        return trial.weptByAll() - scene.weptByAll();
    }

    public int odds(int p, int n, int seed) {
        if (!facts.persons.has(p) || n < 1 || n > MOST_SEEDS) {
            return NONE;
        }
        int wept = scene.weptBy(p);
        int times = 0;
        for (int i = 0; i < n; i++) {
            trial.copyFrom(scene);
            draws.start(seed + i);
            draws.liveDays(trial, ODDS_DAYS);
            if (trial.weptBy(p) > wept) {
                times++;
            }
        }
        return times;
    }

    // ---- what the tape's sightings mean

    public int meant() {
        int sets = pairsAreAsTold() ? countSets(NONE) : NONE;
        if (sets > 0) {
            sure = setsInCommon();
            asked = personToAsk(sets);
        }
        tape.length = 0;
        return sets;
    }

    public int surely() {
        return sure;
    }

    public int ask() {
        return asked;
    }

    private boolean pairsAreAsTold() {
        int pairs = tape.length / 2;
        if (tape.length % 2 != 0 || pairs < 1 || pairs > MOST_PAIRS) {
            return false;
        }
        for (int i = 0; i < pairs; i++) {
            if (tape.get(2 * i) >= 1 << facts.persons.count || tape.get(2 * i + 1) > 1) {
                return false;
            }
        }
        return true;
    }

    /** How many sets there can be, of those with the person p alone, unless p is NONE. */
    private int countSets(int p) {
        int sets = 0;
        for (int set = 0; set < 1 << facts.persons.count; set++) {
            if ((p == NONE || (set >> p & 1) == 1) && canBe(set)) {
                sets++;
            }
        }
        return sets;
    }

    private int setsInCommon() {
        int common = (1 << facts.persons.count) - 1;
        for (int set = 0; set < 1 << facts.persons.count; set++) {
            if (canBe(set)) {
                common &= set;
            }
        }
        return common;
    }

    private boolean canBe(int set) {
        for (int i = 0; i + 1 < tape.length; i += 2) {
            boolean near = (set & tape.get(i)) != 0;
            if (near != (tape.get(i + 1) == 1)) {
                return false;
            }
        }
        return true;
    }

    private int personToAsk(int sets) {
        int best = NONE;
        int bestGap = 0;
        for (int p = 0; p < facts.persons.count; p++) {
            int gap = Math.abs(2 * countSets(p) - sets);
            if (best == NONE || gap < bestGap) {
                best = p;
                bestGap = gap;
            }
        }
        return best;
    }

    public int far() {
        int bits = triplesAreAsTold() ? farsThatCanBe() : NONE;
        tape.length = 0;
        return bits;
    }

    private boolean triplesAreAsTold() {
        int triples = tape.length / 3;
        if (tape.length % 3 != 0 || triples < 1 || triples > MOST_TRIPLES) {
            return false;
        }
        for (int i = 0; i < 3 * triples; i += 3) {
            int ahead = tape.get(i + 1);
            if (tape.get(i) >= MOST_FUNERALS || ahead < 1 || ahead >= LAST_DAY || tape.get(i + 2) > 1) {
                return false;
            }
        }
        return true;
    }

    private int farsThatCanBe() {
        int bits = 0;
        for (int f = 1; f <= MOST_FAR; f++) {
            if (fitsTriples(f)) {
                bits |= 1 << f;
            }
        }
        return bits;
    }

    private boolean fitsTriples(int f) {
        for (int i = 0; i + 2 < tape.length; i += 3) {
            boolean opens = tape.get(i + 1) <= tape.get(i) * f;
            if (opens != (tape.get(i + 2) == 1)) {
                return false;
            }
        }
        return true;
    }

    // ---- plans

    public int toldOf(int u, int k) {
        if (!facts.umbrellas.has(u) || k < 1 || k > MOST_TOLD_DAYS || k > LAST_DAY - scene.day) {
            return NONE;
        }
        return plans.settle(u, k);
    }

    public int toldAt(int k) {
        return k < 0 || k >= MOST_TOLD_DAYS ? NONE : plans.settledAt[k];
    }

    public int cover() {
        return plans.coverAll();
    }

    public int covering() {
        return plans.coveringOnes;
    }

    public int hiding() {
        return plans.hideAll(trial);
    }

    public int hidden(int p) {
        return p < 0 || p >= MOST_PERSONS ? NONE : plans.hiddenAt[p];
    }

    public int turns(int u, int p, int n) {
        if (!facts.umbrellas.has(u) || !facts.persons.has(p) || n < 1 || n > MOST_TURNS) {
            return NONE;
        }
        return scene.carrier[u] == p ? NONE : plans.play(u, p, n);
    }

    public int turn() {
        return plans.firstSetting;
    }

    // ---- tags

    public int tag(int u) {
        if (!facts.umbrellas.has(u)) {
            return NONE;
        }
        latestTag.length = 0;
        latestTag.addName(facts.umbrellas.get(u));
        latestTag.addText(scene.isOpen(u) ? " is open" : " is shut");
        int carrier = scene.carrier[u];
        if (carrier == NONE) {
            latestTag.addText(" at ");
            latestTag.addName(facts.places.get(scene.whereIs(u)));
        } else {
            latestTag.addText(" with ");
            latestTag.addName(facts.persons.get(carrier));
        }
        return latestTag.length;
    }

    public int byteAt(int i) {
        return latestTag.get(i);
    }

    // ---- books and sentences

    public int book(int lives) {
        if (lives != 0 && lives != 1) {
            return OTHER_LIVES;
        }
        boolean whole = latestBook.read(tokens, facts);
        tape.length = 0;
        if (!whole) {
            return -2 - tokens.faultAt;
        }
        if (lives == 1) {
            remember(scene);
            return latestBook.live(scene);
        }
        trial.copyFrom(scene);
        return latestBook.live(trial);
    }

    public int told(int what) {
        switch (what) {
            case 0: return latestBook.why;
            case 1: return latestBook.right;
            case 2: return latestBook.day;
            case 3: return latestBook.open;
            default: return NONE;
        }
    }

    public int sentence() {
        boolean whole = draft.sentence.read(tokens, facts);
        tape.length = 0;
        if (!whole) {
            return -1 - tokens.faultAt;
        }
        here.sentence.copyFrom(draft.sentence);
        return here.sentence.ones;
    }

    public int said(int k) {
        if (here.sentence.ones == 0 || k < NONE) {
            return NONE;
        }
        int bits = here.sentence.saidOf(scene);
        if (k == NONE) {
            return Integer.bitCount(bits);
        }
        int left = k;
        for (int p = 0; p < facts.persons.count; p++) {
            if ((bits >> p & 1) == 1) {
                if (left == 0) {
                    return p;
                }
                left--;
            }
        }
        return NONE;
    }

    // ---- images

    public boolean image(int k) {
        if (k < 0 || k >= images.length) {
            return false;
        }
        images[k].copyFrom(here);
        images[k].kept = true;
        return true;
    }

    public boolean restore(int k) {
        if (k < 0 || k >= images.length || !images[k].kept) {
            return false;
        }
        here.copyFrom(images[k]);
        pastCount = 0;
        return true;
    }

    /** The words of all texts that are no names. */
    private enum Word {
        OTHER(""),
        PLACE("place"), PERSON("person"), HEEDS("heeds"), SORROW("sorrow"), BROLLY("brolly"), FAR("far"),
        GOES("goes"), TAKES("takes"), LEAVES("leaves"), FUNERAL("funeral"), DAY("day"),
        OR("or"), AND("and"), NOT("not"), ALONE("alone"), MEANT("meant"), AT("at"), WITH("with"),
        AHEAD("ahead"), WEPT("wept"), NUMBER("number");

        private static final Word[] ALL = values();

        private final long code;

        Word(String text) {
            code = codeOf(text);
        }

        private static long codeOf(String text) {
            long code = 0;
            for (int i = 0; i < text.length(); i++) {
                code = withLetter(code, text.charAt(i));
            }
            return code;
        }

        /** Seven letters of five bits fit in a long, so that names are compared as numbers. */
        static long withLetter(long code, int letter) {
            return code << 5 | (letter - 'a' + 1);
        }

        static Word withCode(long code) {
            for (int i = 0; i < ALL.length; i++) {
                if (ALL[i].code == code) {
                    return ALL[i];
                }
            }
            return OTHER;
        }

        boolean countsSomething() {
            return this == AHEAD || this == WEPT || this == NUMBER;
        }

        boolean beginsOne() {
            return this == NOT || this == HEEDS || this == ALONE || this == MEANT
                    || this == AT || this == WITH || countsSomething();
        }
    }

    /** A row of bytes that grows to a bound. */
    private static final class Tape {
        private final byte[] bytes;
        int length;

        Tape(int most) {
            bytes = new byte[most < 0 ? 0 : most];
        }

        int get(int i) {
            return i < 0 || i >= length || i >= bytes.length ? NONE : bytes[i] & 255;
        }

        void add(int value) {
            if (length < bytes.length) {
                bytes[length] = (byte) value;
                length++;
            }
        }

        void addNumber(int number) {
            add(number >>> 24);
            add(number >>> 16);
            add(number >>> 8);
            add(number);
        }

        void addText(String text) {
            for (int i = 0; i < text.length(); i++) {
                add(text.charAt(i));
            }
        }

        void addName(long code) {
            for (int shift = 30; shift >= 0; shift -= 5) {
                int letter = (int) (code >>> shift) & 31;
                if (letter != 0) {
                    add('a' + letter - 1);
                }
            }
        }
    }

    /** The tokens of the tape one by one, and the first fault that a reader found. */
    private static final class Tokens {
        private static final int END = 0;
        private static final int WRONG = 1;
        private static final int SIGN = 2;
        private static final int DIGITS = 3;
        private static final int LETTERS = 4;
        private static final int MOST_DIGITS = 3;
        private static final int MOST_LETTERS = 7;

        private final Tape tape;
        private int most;
        private int behind;
        private int kind;
        private int at;
        private int value;
        private long code;
        private Word word = Word.OTHER;
        int fault;
        int faultAt;

        Tokens(Tape tape) {
            this.tape = tape;
        }

        /** Begins with the first token of a text that may have so many bytes. */
        void start(int mostBytes) {
            most = mostBytes;
            behind = 0;
            fault = 0;
            faultAt = 0;
            advance();
        }

        void advance() {
            int i = behind;
            while (i < tape.length && isBlank(tape.get(i))) {
                i++;
            }
            word = Word.OTHER;
            value = 0;
            code = 0;
            if (i >= tape.length || i >= most) {
                stop();
            } else if (isLetter(tape.get(i)) || isDigit(tape.get(i))) {
                readRun(i);
            } else {
                readSign(i);
            }
        }

        /** A text that is too long has no end that could come: whatever is read up to there is wrong. */
        private void stop() {
            kind = tape.length > most ? WRONG : END;
            at = Math.min(tape.length, most);
            behind = tape.length;
        }

        private void readRun(int from) {
            int letters = 0;
            int i = from;
            while (i < tape.length && (isLetter(tape.get(i)) || isDigit(tape.get(i)))) {
                if (isLetter(tape.get(i))) {
                    code = Word.withLetter(code, tape.get(i));
                    letters++;
                } else {
                    value = value * 10 + (tape.get(i) - '0');
                }
                i++;
            }
            at = from;
            behind = i;
            kind = kindOfRun(letters, i - from - letters);
            if (kind == LETTERS) {
                word = Word.withCode(code);
            }
        }

        private static int kindOfRun(int letters, int digits) {
            if (digits == 0 && letters <= MOST_LETTERS) {
                return LETTERS;
            }
            return letters == 0 && digits <= MOST_DIGITS ? DIGITS : WRONG;
        }

        private void readSign(int from) {
            int c = tape.get(from);
            boolean told = c == ';' || c == '<' || c == '=' || c == '>' || c == '(' || c == ')';
            kind = told ? SIGN : WRONG;
            value = c;
            at = from;
            behind = from + 1;
        }

        private static boolean isBlank(int c) {
            return c == 32 || c == 10;
        }

        private static boolean isLetter(int c) {
            return c >= 'a' && c <= 'z';
        }

        private static boolean isDigit(int c) {
            return c >= '0' && c <= '9';
        }

        boolean isEnd() {
            return kind == END;
        }

        boolean isSign(char sign) {
            return kind == SIGN && value == sign;
        }

        boolean isComparison() {
            return isSign('<') || isSign('=') || isSign('>');
        }

        boolean isName() {
            return kind == LETTERS && word == Word.OTHER;
        }

        /** OTHER for whatever is none of the words told. */
        Word wordHere() {
            return word;
        }

        int signHere() {
            return value;
        }

        /** Notes a fault at this token; always false, so that a reader can answer with it. */
        boolean fails(int why) {
            if (fault == 0) {
                fault = why;
                faultAt = at;
            }
            return false;
        }

        boolean passSign(char sign) {
            if (!isSign(sign)) {
                return fails(NO_TOKEN);
            }
            advance();
            return true;
        }

        /** The number that comes, or NONE and a fault. */
        int passNumber(int least, int greatest) {
            if (kind != DIGITS) {
                fails(NO_TOKEN);
                return NONE;
            }
            if (value < least || value > greatest) {
                fails(WRONG_NUMBER);
                return NONE;
            }
            int number = value;
            advance();
            return number;
        }

        /** Whose name comes, or NONE and a fault; the token stays. */
        int findKnown(Names names) {
            if (!isName()) {
                fails(NO_TOKEN);
                return NONE;
            }
            int found = names.find(code);
            if (found == NONE) {
                fails(WRONG_NAME);
            }
            return found;
        }

        int passKnown(Names names) {
            int found = findKnown(names);
            if (found != NONE) {
                advance();
            }
            return found;
        }

        /** The code of a name that the town has not, or 0 and a fault. */
        long passNew(Town town) {
            if (!isName()) {
                fails(NO_TOKEN);
                return 0;
            }
            if (town.knows(code)) {
                fails(WRONG_NAME);
                return 0;
            }
            long fresh = code;
            advance();
            return fresh;
        }
    }

    /** The names of one sort, in their order. */
    private static final class Names {
        private final long[] codes;
        int count;

        Names(int most) {
            codes = new long[most < 0 ? 0 : most];
        }

        boolean has(int i) {
            return i >= 0 && i < count;
        }

        boolean isFull() {
            return count >= codes.length;
        }

        long get(int i) {
            return i >= 0 && i < count && i < codes.length ? codes[i] : 0;
        }

        void add(long code) {
            if (!isFull()) {
                codes[count] = code;
                count++;
            }
        }

        int find(long code) {
            for (int i = 0; i < count; i++) {
                if (codes[i] == code) {
                    return i;
                }
            }
            return NONE;
        }

        void copyFrom(Names other) {
            count = other.count;
            System.arraycopy(other.codes, 0, codes, 0, codes.length);
        }
    }

    /** What the text of a town tells: it never changes while the days go. */
    private static final class Town {
        final Names places = new Names(MOST_PLACES);
        final Names persons = new Names(MOST_PERSONS);
        final Names umbrellas = new Names(MOST_UMBRELLAS);
        private int heeders;
        final int[] homes = new int[MOST_PERSONS];
        final int[] stands = new int[MOST_UMBRELLAS];
        final int[] firstFunerals = new int[MOST_UMBRELLAS];
        int sorrows;
        final int[] sorrowOf = new int[MOST_SORROWS];
        final int[] sorrowDay = new int[MOST_SORROWS];
        final int[] sorrowN = new int[MOST_SORROWS];
        int far = USUAL_FAR;

        boolean heeds(int p) {
            return (heeders >> p & 1) == 1;
        }

        boolean knows(long code) {
            return places.find(code) != NONE || persons.find(code) != NONE || umbrellas.find(code) != NONE;
        }

        void copyFrom(Town other) {
            places.copyFrom(other.places);
            persons.copyFrom(other.persons);
            umbrellas.copyFrom(other.umbrellas);
            heeders = other.heeders;
            System.arraycopy(other.homes, 0, homes, 0, MOST_PERSONS);
            System.arraycopy(other.stands, 0, stands, 0, MOST_UMBRELLAS);
            System.arraycopy(other.firstFunerals, 0, firstFunerals, 0, MOST_UMBRELLAS);
            sorrows = other.sorrows;
            System.arraycopy(other.sorrowOf, 0, sorrowOf, 0, MOST_SORROWS);
            System.arraycopy(other.sorrowDay, 0, sorrowDay, 0, MOST_SORROWS);
            System.arraycopy(other.sorrowN, 0, sorrowN, 0, MOST_SORROWS);
            far = other.far;
        }

        /** Reads the tape: how many lines, or NONE and the tokens' fault. */
        int read(Tokens tokens) {
            clear();
            tokens.start(TOWN_BYTES);
            for (int lines = 0; lines <= TOWN_BYTES; lines++) {
                if (tokens.isEnd()) {
                    far = far == 0 ? USUAL_FAR : far;
                    return lines;
                }
                if (!readLine(tokens) || !tokens.passSign(';')) {
                    return NONE;
                }
            }
            return NONE;
        }

        private void clear() {
            places.count = 0;
            persons.count = 0;
            umbrellas.count = 0;
            heeders = 0;
            sorrows = 0;
            // 0 while no line has told it
            far = 0;
        }

        private boolean readLine(Tokens tokens) {
            Word first = tokens.wordHere();
            if (first == Word.PLACE) {
                return readPlace(tokens);
            }
            if (first == Word.PERSON) {
                return readPerson(tokens);
            }
            if (first == Word.SORROW) {
                return readSorrow(tokens);
            }
            if (first == Word.BROLLY) {
                return readUmbrella(tokens);
            }
            return first == Word.FAR ? readFar(tokens) : tokens.fails(NO_TOKEN);
        }

        private boolean readPlace(Tokens tokens) {
            if (places.isFull()) {
                return tokens.fails(TOO_MANY);
            }
            tokens.advance();
            long name = tokens.passNew(this);
            if (name == 0) {
                return false;
            }
            places.add(name);
            return true;
        }

        private boolean readPerson(Tokens tokens) {
            if (persons.isFull()) {
                return tokens.fails(TOO_MANY);
            }
            tokens.advance();
            long name = tokens.passNew(this);
            if (name == 0) {
                return false;
            }
            int home = tokens.passKnown(places);
            if (home == NONE) {
                return false;
            }
            int p = persons.count;
            homes[p] = home;
            persons.add(name);
            if (tokens.wordHere() == Word.HEEDS) {
                heeders |= 1 << p;
                tokens.advance();
            }
            return true;
        }

        private boolean readSorrow(Tokens tokens) {
            if (sorrows >= MOST_SORROWS) {
                return tokens.fails(TOO_MANY);
            }
            tokens.advance();
            int p = tokens.passKnown(persons);
            int day = p == NONE ? NONE : tokens.passNumber(1, LAST_DAY - 1);
            int n = day == NONE ? NONE : tokens.passNumber(1, 20);
            if (n == NONE) {
                return false;
            }
            sorrowOf[sorrows] = p;
            sorrowDay[sorrows] = day;
            sorrowN[sorrows] = n;
            sorrows++;
            return true;
        }

        private boolean readUmbrella(Tokens tokens) {
            if (umbrellas.isFull()) {
                return tokens.fails(TOO_MANY);
            }
            tokens.advance();
            long name = tokens.passNew(this);
            if (name == 0) {
                return false;
            }
            int stand = tokens.passKnown(places);
            int funerals = stand == NONE ? NONE : tokens.passNumber(0, MOST_FUNERALS);
            if (funerals == NONE) {
                return false;
            }
            stands[umbrellas.count] = stand;
            firstFunerals[umbrellas.count] = funerals;
            umbrellas.add(name);
            return true;
        }

        private boolean readFar(Tokens tokens) {
            if (far != 0) {
                return tokens.fails(WRONG_NAME);
            }
            tokens.advance();
            int number = tokens.passNumber(1, MOST_FAR);
            if (number == NONE) {
                return false;
            }
            far = number;
            return true;
        }
    }

    /** How all is in a town on a day. What was wept follows from the day and from what was spared. */
    private static final class Scene {
        static final int AHEAD = 0;
        static final int SPARED = 1;
        static final int BEFELL = 2;
        /** More days than any umbrella can feel ahead. */
        static final int NEVER = 1000;

        private final Town town;
        int day;
        int held;
        private int spared;
        final int[] personAt = new int[MOST_PERSONS];
        private final int[] stoodAt = new int[MOST_UMBRELLAS];
        final int[] carrier = new int[MOST_UMBRELLAS];
        final int[] funerals = new int[MOST_UMBRELLAS];

        Scene(Town town) {
            this.town = town;
        }

        void begin() {
            day = 0;
            held = 0;
            spared = 0;
            for (int p = 0; p < town.persons.count; p++) {
                personAt[p] = town.homes[p];
            }
            for (int u = 0; u < town.umbrellas.count; u++) {
                stoodAt[u] = town.stands[u];
                carrier[u] = NONE;
                funerals[u] = town.firstFunerals[u];
            }
        }

        void copyFrom(Scene other) {
            day = other.day;
            held = other.held;
            spared = other.spared;
            System.arraycopy(other.personAt, 0, personAt, 0, MOST_PERSONS);
            System.arraycopy(other.stoodAt, 0, stoodAt, 0, MOST_UMBRELLAS);
            System.arraycopy(other.carrier, 0, carrier, 0, MOST_UMBRELLAS);
            System.arraycopy(other.funerals, 0, funerals, 0, MOST_UMBRELLAS);
        }

        // -- sorrows

        int fate(int s) {
            if ((spared >> s & 1) == 1) {
                return SPARED;
            }
            return town.sorrowDay[s] > day ? AHEAD : BEFELL;
        }

        int fated(int fate) {
            int number = 0;
            for (int s = 0; s < town.sorrows; s++) {
                if (fate(s) == fate) {
                    number++;
                }
            }
            return number;
        }

        int aheadOf(int p) {
            int number = 0;
            for (int s = 0; s < town.sorrows; s++) {
                if (town.sorrowOf[s] == p && fate(s) == AHEAD) {
                    number++;
                }
            }
            return number;
        }

        /** In how many days the next sorrow of a person comes, or NEVER. */
        int soonest(int p) {
            int soonest = NEVER;
            for (int s = 0; s < town.sorrows; s++) {
                if (town.sorrowOf[s] == p && fate(s) == AHEAD) {
                    soonest = Math.min(soonest, town.sorrowDay[s] - day);
                }
            }
            return soonest;
        }

        int weptBy(int p) {
            int n = 0;
            for (int s = 0; s < town.sorrows; s++) {
                if (town.sorrowOf[s] == p && fate(s) == BEFELL) {
                    n += town.sorrowN[s];
                }
            }
            return n;
        }

        int weptByAll() {
            return sumOf(BEFELL);
        }

        int sparedInAll() {
            return sumOf(SPARED);
        }

        private int sumOf(int fate) {
            int n = 0;
            for (int s = 0; s < town.sorrows; s++) {
                if (fate(s) == fate) {
                    n += town.sorrowN[s];
                }
            }
            return n;
        }

        // -- persons and umbrellas

        int whereIs(int u) {
            int p = carrier[u];
            return p == NONE ? stoodAt[u] : personAt[p];
        }

        int reach(int u) {
            return funerals[u] * town.far;
        }

        int personsIn(int l) {
            int bits = 0;
            for (int p = 0; p < town.persons.count; p++) {
                if (personAt[p] == l) {
                    bits |= 1 << p;
                }
            }
            return bits;
        }

        int umbrellasIn(int l) {
            int bits = 0;
            for (int u = 0; u < town.umbrellas.count; u++) {
                if (whereIs(u) == l) {
                    bits |= 1 << u;
                }
            }
            return bits;
        }

        boolean isAlone(int p) {
            return personsIn(personAt[p]) == 1 << p;
        }

        int carriedBy(int p) {
            int bits = 0;
            for (int u = 0; u < town.umbrellas.count; u++) {
                if (carrier[u] == p) {
                    bits |= 1 << u;
                }
            }
            return bits;
        }

        int carriedOnes() {
            int bits = 0;
            for (int u = 0; u < town.umbrellas.count; u++) {
                if (carrier[u] != NONE) {
                    bits |= 1 << u;
                }
            }
            return bits;
        }

        // -- what opens

        int openersFor(int p) {
            return openersIn(personAt[p], soonest(p));
        }

        /** Umbrellas in a place that feel so many days ahead. */
        int openersIn(int l, int ahead) {
            int bits = 0;
            for (int u = 0; u < town.umbrellas.count; u++) {
                if (whereIs(u) == l && reach(u) >= ahead) {
                    bits |= 1 << u;
                }
            }
            return bits;
        }

        int openedFor(int u) {
            return feltIn(whereIs(u), reach(u));
        }

        /** Persons in a place who will be sorry within so many days. */
        int feltIn(int l, int reach) {
            int bits = 0;
            for (int p = 0; p < town.persons.count; p++) {
                if (personAt[p] == l && soonest(p) <= reach) {
                    bits |= 1 << p;
                }
            }
            return bits;
        }

        boolean isOpen(int u) {
            return neverShuts(u) || openedFor(u) != 0;
        }

        boolean neverShuts(int u) {
            return funerals[u] >= MOST_FUNERALS;
        }

        int openOnes() {
            int bits = 0;
            for (int u = 0; u < town.umbrellas.count; u++) {
                if (isOpen(u)) {
                    bits |= 1 << u;
                }
            }
            return bits;
        }

        int meantOnes() {
            int bits = 0;
            for (int p = 0; p < town.persons.count; p++) {
                if (openersFor(p) != 0) {
                    bits |= 1 << p;
                }
            }
            return bits;
        }

        // -- acts: 0, or why not

        int tryGo(int p, int l) {
            if (personAt[p] == l) {
                return 1;
            }
            personAt[p] = l;
            return 0;
        }

        int tryTake(int p, int u) {
            if (whereIs(u) != personAt[p]) {
                return 1;
            }
            if (carrier[u] != NONE) {
                return 2;
            }
            carrier[u] = p;
            return 0;
        }

        int tryLeave(int p, int u) {
            if (carrier[u] != p) {
                return 1;
            }
            setUmbrella(u, personAt[p]);
            return 0;
        }

        int tryFuneral(int l) {
            int there = umbrellasIn(l);
            if (there == 0) {
                return 1;
            }
            for (int u = 0; u < town.umbrellas.count; u++) {
                if ((there >> u & 1) == 1) {
                    funerals[u] = Math.min(funerals[u] + 1, MOST_FUNERALS);
                }
            }
            held++;
            return 0;
        }

        void setUmbrella(int u, int l) {
            carrier[u] = NONE;
            stoodAt[u] = l;
        }

        /** Lets so many days go by, as far as there are any: how many did. */
        int passDays(int n) {
            int passed = Math.min(n, LAST_DAY - day);
            for (int i = 0; i < passed; i++) {
                passDay();
            }
            return passed;
        }

        void passDay() {
            for (int p = 0; p < town.persons.count; p++) {
                if (town.heeds(p) && isAlone(p)) {
                    spareWithin(p, longestReachIn(personAt[p]));
                }
            }
            day++;
        }

        private int longestReachIn(int l) {
            int longest = 0;
            for (int u = 0; u < town.umbrellas.count; u++) {
                if (whereIs(u) == l) {
                    longest = Math.max(longest, reach(u));
                }
            }
            return longest;
        }

        private void spareWithin(int p, int reach) {
            for (int s = 0; s < town.sorrows; s++) {
                if (town.sorrowOf[s] == p && fate(s) == AHEAD && town.sorrowDay[s] - day <= reach) {
                    spared |= 1 << s;
                }
            }
        }
    }

    /** A town, how all is in it, and what may be said in it: what an image keeps. */
    private static final class World {
        final Town town = new Town();
        final Scene scene = new Scene(town);
        final Sentence sentence = new Sentence();
        boolean kept;

        void copyFrom(World other) {
            town.copyFrom(other.town);
            scene.copyFrom(other.scene);
            sentence.copyFrom(other.sentence);
        }
    }

    /** Days that are drawn by a seed. */
    private static final class Draws {
        private int x;

        void start(int seed) {
            x = seed;
        }

        private int draw(int n) {
            if (n <= 0) {
                return 0;
            }
            x = x * 1103515245 + 12345;
            return (x >>> 8) % n;
        }

        int liveDays(Scene scene, int n) {
            int lived = Math.min(n, LAST_DAY - scene.day);
            for (int i = 0; i < lived; i++) {
                for (int p = 0; p < scene.town.persons.count; p++) {
                    drawAct(scene, p);
                }
                drawFuneral(scene);
                scene.passDay();
            }
            return lived;
        }

        private void drawAct(Scene scene, int p) {
            int act = draw(6);
            if (act <= 1) {
                scene.tryGo(p, draw(scene.town.places.count));
            } else if (act == 2 && scene.town.umbrellas.count > 0) {
                scene.tryTake(p, draw(scene.town.umbrellas.count));
            } else if (act == 3) {
                leaveFirst(scene, p);
            }
        }

        private static void leaveFirst(Scene scene, int p) {
            for (int u = 0; u < scene.town.umbrellas.count; u++) {
                if (scene.tryLeave(p, u) == 0) {
                    return;
                }
            }
        }

        private void drawFuneral(Scene scene) {
            if (draw(12) == 0) {
                scene.tryFuneral(draw(scene.town.places.count));
            }
        }
    }

    /** What would be best, or would come of it: tried apart, the town's own scene stays. */
    private static final class Plans {
        private static final int MOST_ROUNDS = 10;
        private static final int MOST_SETTINGS = MOST_PLACES * MOST_PLACES * MOST_PLACES * MOST_PLACES;

        private final Scene now;
        private final Town town;
        private final Scene[] behindDays = new Scene[MOST_TOLD_DAYS + 1];
        private final int[] triedAt = new int[MOST_TOLD_DAYS];
        final int[] settledAt = new int[MOST_TOLD_DAYS];
        private int mostSpared;
        private final int[] needs = new int[MOST_PLACES];
        int coveringOnes = NONE;
        final int[] hiddenAt = new int[MOST_PERSONS];
        private final int[] opensBy = new int[MOST_PLACES];
        int firstSetting = NONE;

        Plans(Scene now) {
            this.now = now;
            this.town = now.town;
            for (int i = 0; i < behindDays.length; i++) {
                behindDays[i] = new Scene(town);
            }
            for (int i = 0; i < settledAt.length; i++) {
                settledAt[i] = NONE;
            }
            for (int i = 0; i < hiddenAt.length; i++) {
                hiddenAt[i] = NONE;
            }
        }

        // -- where an umbrella is best set day by day

        int settle(int u, int wanted) {
            int days = Math.min(wanted, MOST_TOLD_DAYS);
            behindDays[0].copyFrom(now);
            mostSpared = NONE;
            for (int d = 0; d < days; d++) {
                triedAt[d] = 0;
            }
            int changed = 0;
            for (int i = 0; i < MOST_SETTINGS && changed != NONE; i++) {
                for (int d = changed; d < days; d++) {
                    tryDay(u, d);
                }
                keepIfBetter(days);
                changed = nextSetting(days);
            }
            return mostSpared;
        }

        private void tryDay(int u, int d) {
            Scene next = behindDays[d + 1];
            next.copyFrom(behindDays[d]);
            next.setUmbrella(u, triedAt[d]);
            next.passDay();
        }

        /** The first day whose place is another one now, or NONE behind the last setting. */
        private int nextSetting(int days) {
            for (int d = days - 1; d >= 0; d--) {
                if (triedAt[d] + 1 < town.places.count) {
                    triedAt[d]++;
                    return d;
                }
                triedAt[d] = 0;
            }
            return NONE;
        }

        private void keepIfBetter(int days) {
            int spared = behindDays[days].sparedInAll() - now.sparedInAll();
            // the first of like ones is met first, and stays
            if (spared <= mostSpared) {
                return;
            }
            mostSpared = spared;
            for (int i = 0; i < settledAt.length; i++) {
                settledAt[i] = i < days ? triedAt[i] : NONE;
            }
        }

        // -- by how few all are told

        int coverAll() {
            int needed = findNeeds();
            for (int set = 0; set < 1 << town.umbrellas.count; set++) {
                if (Integer.bitCount(set) == needed && meetsNeeds(set)) {
                    coveringOnes = set;
                    return needed;
                }
            }
            return NONE;
        }

        /** How far ahead one must feel in each place, 0 where none is needed: how many places need one. */
        private int findNeeds() {
            int needed = 0;
            for (int l = 0; l < town.places.count; l++) {
                needs[l] = 0;
                for (int p = 0; p < town.persons.count; p++) {
                    int soonest = now.soonest(p);
                    if (now.personAt[p] == l && soonest != Scene.NEVER) {
                        needs[l] = Math.max(needs[l], soonest);
                    }
                }
                needed += needs[l] > 0 ? 1 : 0;
            }
            return needed;
        }

        /** One that feels farther does for any lesser need: so it is enough to count at each need. */
        private boolean meetsNeeds(int set) {
            for (int l = 0; l < town.places.count; l++) {
                if (needs[l] > 0 && placesNeeding(needs[l]) > umbrellasReaching(set, needs[l])) {
                    return false;
                }
            }
            return true;
        }

        private int placesNeeding(int ahead) {
            int number = 0;
            for (int l = 0; l < town.places.count; l++) {
                number += needs[l] >= ahead ? 1 : 0;
            }
            return number;
        }

        private int umbrellasReaching(int set, int ahead) {
            int number = 0;
            for (int u = 0; u < town.umbrellas.count; u++) {
                number += (set >> u & 1) == 1 && now.reach(u) >= ahead ? 1 : 0;
            }
            return number;
        }

        // -- where those go who would not be told

        int hideAll(Scene trial) {
            trial.copyFrom(now);
            int rounds = 0;
            boolean gone = true;
            while (gone && rounds < MOST_ROUNDS) {
                gone = hideRound(trial);
                rounds++;
            }
            for (int p = 0; p < hiddenAt.length; p++) {
                hiddenAt[p] = p < town.persons.count ? trial.personAt[p] : NONE;
            }
            return rounds;
        }

        /** Whether somebody goes. */
        private boolean hideRound(Scene trial) {
            boolean gone = false;
            for (int p = 0; p < town.persons.count; p++) {
                if (!town.heeds(p) && trial.carriedBy(p) == 0 && trial.openersFor(p) != 0 && hideOne(trial, p)) {
                    gone = true;
                }
            }
            return gone;
        }

        private boolean hideOne(Scene trial, int p) {
            int soonest = trial.soonest(p);
            for (int l = 0; l < town.places.count; l++) {
                if (trial.openersIn(l, soonest) == 0) {
                    trial.personAt[p] = l;
                    return true;
                }
            }
            return false;
        }

        // -- how two sides move an umbrella and a person

        /**
         * opensBy has, for each place of the umbrella, the places of the person (as bits) from which
         * it ends open; it is led back from the last move to behind the first.
         */
        int play(int u, int p, int moves) {
            markOpenings(u, p);
            for (int move = moves; move >= 2; move--) {
                if (move % 2 == 0) {
                    leadBackPerson();
                } else {
                    leadBackUmbrella();
                }
            }
            return chooseFirst(now.whereIs(u), now.personAt[p]);
        }

        private void markOpenings(int u, int p) {
            int everywhere = (1 << town.places.count) - 1;
            boolean feelsHim = now.soonest(p) <= now.reach(u);
            for (int l = 0; l < town.places.count; l++) {
                boolean opensForOthers = (now.feltIn(l, now.reach(u)) & ~(1 << p)) != 0;
                if (now.neverShuts(u) || opensForOthers) {
                    opensBy[l] = everywhere;
                } else {
                    opensBy[l] = feelsHim ? 1 << l : 0;
                }
            }
        }

        private void leadBackPerson() {
            int everywhere = (1 << town.places.count) - 1;
            for (int l = 0; l < town.places.count; l++) {
                opensBy[l] = opensBy[l] == everywhere ? everywhere : 0;
            }
        }

        private void leadBackUmbrella() {
            int anyhow = 0;
            for (int l = 0; l < town.places.count; l++) {
                anyhow |= opensBy[l];
            }
            for (int l = 0; l < town.places.count; l++) {
                opensBy[l] = anyhow;
            }
        }

        private int chooseFirst(int umbrellaAt, int personAt) {
            firstSetting = umbrellaAt;
            if ((opensBy[umbrellaAt] >> personAt & 1) == 1) {
                return 1;
            }
            for (int l = 0; l < town.places.count; l++) {
                if ((opensBy[l] >> personAt & 1) == 1) {
                    firstSetting = l;
                    return 1;
                }
            }
            return 0;
        }
    }

    /** The lines of a book, and what came of the latest that was whole. */
    private static final class Book {
        private static final int MOST_LINES = 40;

        private final Word[] acts = new Word[MOST_LINES];
        private final int[] who = new int[MOST_LINES];
        private final int[] what = new int[MOST_LINES];
        private int lines;
        int why = NONE;
        int right = NONE;
        int day = NONE;
        int open = NONE;

        boolean read(Tokens tokens, Town town) {
            lines = 0;
            tokens.start(BOOK_BYTES);
            for (int i = 0; i <= MOST_LINES; i++) {
                if (tokens.isEnd()) {
                    return true;
                }
                if (!readLine(tokens, town) || !tokens.passSign(';')) {
                    return false;
                }
            }
            return false;
        }

        private boolean readLine(Tokens tokens, Town town) {
            Word act = tokens.wordHere();
            boolean personActs = act != Word.FUNERAL && act != Word.DAY;
            int person = personActs ? tokens.findKnown(town.persons) : 0;
            if (person == NONE) {
                return false;
            }
            if (lines >= MOST_LINES) {
                return tokens.fails(TOO_MANY);
            }
            tokens.advance();
            if (personActs) {
                act = tokens.wordHere();
                if (act != Word.GOES && act != Word.TAKES && act != Word.LEAVES) {
                    return tokens.fails(NO_TOKEN);
                }
                tokens.advance();
            }
            int object = readObject(tokens, town, act);
            if (object == NONE) {
                return false;
            }
            acts[lines] = act;
            who[lines] = person;
            what[lines] = object;
            lines++;
            return true;
        }

        private static int readObject(Tokens tokens, Town town, Word act) {
            if (act == Word.DAY) {
                return tokens.passNumber(1, MOST_DAYS_AT_ONCE);
            }
            boolean isPlace = act == Word.GOES || act == Word.FUNERAL;
            return tokens.passKnown(isPlace ? town.places : town.umbrellas);
        }

        /** Lives the lines in a scene up to the one that is wrong: which it is, or NONE. */
        int live(Scene scene) {
            why = 0;
            right = 0;
            for (int i = 0; i < lines && why == 0; i++) {
                why = liveLine(scene, i);
                right += why == 0 ? 1 : 0;
            }
            day = scene.day;
            open = scene.openOnes();
            return why == 0 ? NONE : right;
        }

        private int liveLine(Scene scene, int i) {
            Word act = acts[i];
            if (act == Word.GOES) {
                return codeOf(scene.tryGo(who[i], what[i]), 0);
            }
            if (act == Word.TAKES) {
                return codeOf(scene.tryTake(who[i], what[i]), 10);
            }
            if (act == Word.LEAVES) {
                return codeOf(scene.tryLeave(who[i], what[i]), 20);
            }
            if (act == Word.FUNERAL) {
                return codeOf(scene.tryFuneral(what[i]), 30);
            }
            if (what[i] > LAST_DAY - scene.day) {
                return 41;
            }
            scene.passDays(what[i]);
            return 0;
        }

        private static int codeOf(int whyNot, int ofAct) {
            return whyNot == 0 ? 0 : ofAct + whyNot;
        }
    }

    /** A sentence as steps, each behind those that it joins; what is said is a set of persons as bits. */
    private static final class Sentence {
        private static final int MOST_ONES = 20;
        private static final int MOST_WITHIN = 8;
        private static final int MOST_STEPS = 2 * MOST_ONES;
        private static final int GREATEST = 999;

        private final Word[] steps = new Word[MOST_STEPS];
        private final int[] signs = new int[MOST_STEPS];
        private final int[] numbers = new int[MOST_STEPS];
        private final int[] sets = new int[MOST_STEPS];
        private final Word[] waiting = new Word[MOST_STEPS];
        private int waits;
        private int within;
        private boolean wantsOne;
        private int length;
        int ones;

        void clear() {
            length = 0;
            ones = 0;
        }

        void copyFrom(Sentence other) {
            length = other.length;
            ones = other.ones;
            for (int i = 0; i < length; i++) {
                steps[i] = other.steps[i];
                signs[i] = other.signs[i];
                numbers[i] = other.numbers[i];
            }
        }

        // -- reading: what waits for its last part is kept in a row, brackets as OTHER

        boolean read(Tokens tokens, Town town) {
            clear();
            waits = 0;
            within = 0;
            wantsOne = true;
            tokens.start(SENTENCE_BYTES);
            // each turn passes a token at least
            for (int i = 0; i <= SENTENCE_BYTES; i++) {
                if (isWhole() && tokens.isEnd()) {
                    settleDownTo(Word.OR);
                    return true;
                }
                boolean reads = wantsOne ? readOne(tokens, town) : readJoint(tokens);
                if (!reads) {
                    return false;
                }
            }
            return false;
        }

        /** Behind a ONE a 'not' waits only for the end of a bracket: none within, no bracket open. */
        private boolean isWhole() {
            return !wantsOne && within == 0;
        }

        /** Reads a ONE, of a 'not' or a bracket its beginning alone. */
        private boolean readOne(Tokens tokens, Town town) {
            boolean bracket = tokens.isSign('(');
            Word first = tokens.wordHere();
            if (!bracket && !first.beginsOne()) {
                return tokens.fails(NO_TOKEN);
            }
            if (ones >= MOST_ONES || within >= MOST_WITHIN) {
                return tokens.fails(TOO_MANY);
            }
            ones++;
            tokens.advance();
            wantsOne = bracket || first == Word.NOT;
            if (wantsOne) {
                within++;
                return addWaiting(first);
            }
            boolean whole = first.countsSomething()
                    ? readComparison(tokens, first) : readPlain(tokens, town, first);
            settleNots();
            return whole;
        }

        /** Reads what may come behind a ONE: 'and', 'or', or the end of a bracket. */
        private boolean readJoint(Tokens tokens) {
            Word joint = tokens.wordHere();
            if (joint == Word.AND || joint == Word.OR) {
                wantsOne = true;
                settleDownTo(joint);
                tokens.advance();
                return addWaiting(joint);
            }
            if (isWhole()) {
                return tokens.fails(NO_TOKEN);
            }
            settleDownTo(Word.OR);
            waits--;
            within--;
            settleNots();
            return tokens.passSign(')');
        }

        private boolean addWaiting(Word word) {
            if (waits >= MOST_STEPS) {
                return false;
            }
            waiting[waits] = word;
            waits++;
            return true;
        }

        private void settleNots() {
            for (int i = 0; i < MOST_STEPS && waits > 0 && waiting[waits - 1] == Word.NOT; i++) {
                waits--;
                within--;
                addStep(Word.NOT, 0, 0);
            }
        }

        /** Settles what binds at least as much as the joint: each 'and', and each 'or' if it is one. */
        private void settleDownTo(Word joint) {
            for (int i = 0; i < MOST_STEPS && waits > 0; i++) {
                Word last = waiting[waits - 1];
                if (last != Word.AND && (last != Word.OR || joint != Word.OR)) {
                    return;
                }
                waits--;
                addStep(last, 0, 0);
            }
        }

        private boolean readComparison(Tokens tokens, Word first) {
            if (!tokens.isComparison()) {
                return tokens.fails(NO_TOKEN);
            }
            int sign = tokens.signHere();
            tokens.advance();
            int number = tokens.passNumber(0, GREATEST);
            return number != NONE && addStep(first, sign, number);
        }

        private boolean readPlain(Tokens tokens, Town town, Word first) {
            int number = 0;
            if (first == Word.AT) {
                number = tokens.passKnown(town.places);
            } else if (first == Word.WITH) {
                number = tokens.passKnown(town.umbrellas);
            }
            return number != NONE && addStep(first, 0, number);
        }

        private boolean addStep(Word step, int sign, int number) {
            if (length >= MOST_STEPS) {
                return false;
            }
            steps[length] = step;
            signs[length] = sign;
            numbers[length] = number;
            length++;
            return true;
        }

        // -- saying

        /** The persons of whom it may be said, as bits. */
        int saidOf(Scene scene) {
            int everybody = (1 << scene.town.persons.count) - 1;
            int top = NONE;
            for (int i = 0; i < length; i++) {
                Word step = steps[i];
                if (step == Word.AND && top >= 1) {
                    sets[top - 1] &= sets[top];
                    top--;
                } else if (step == Word.OR && top >= 1) {
                    sets[top - 1] |= sets[top];
                    top--;
                } else if (step == Word.NOT && top >= 0) {
                    sets[top] = everybody & ~sets[top];
                } else if (top + 1 < MOST_STEPS) {
                    top++;
                    sets[top] = plainSet(scene, i);
                }
            }
            return top < 0 ? 0 : sets[0];
        }

        private int plainSet(Scene scene, int i) {
            if (steps[i] == Word.AT) {
                return scene.personsIn(numbers[i]);
            }
            if (steps[i] == Word.MEANT) {
                return scene.meantOnes();
            }
            int bits = 0;
            for (int p = 0; p < scene.town.persons.count; p++) {
                if (isSaid(scene, i, p)) {
                    bits |= 1 << p;
                }
            }
            return bits;
        }

        private boolean isSaid(Scene scene, int i, int p) {
            Word step = steps[i];
            if (step == Word.HEEDS) {
                return scene.town.heeds(p);
            }
            if (step == Word.ALONE) {
                return scene.isAlone(p);
            }
            if (step == Word.WITH) {
                return scene.carrier[numbers[i]] == p;
            }
            if (step == Word.AHEAD) {
                return compares(scene.aheadOf(p), signs[i], numbers[i]);
            }
            return compares(step == Word.WEPT ? scene.weptBy(p) : p, signs[i], numbers[i]);
        }

        private static boolean compares(int value, int sign, int number) {
            if (sign == '<') {
                return value < number;
            }
            return sign == '=' ? value == number : value > number;
        }
    }
}
