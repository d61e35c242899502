import java.util.ArrayList;
import java.util.Arrays;
import java.util.List;
import java.util.Set;

/**
 * The document read a second time, in the plainest form and with the Java library: lists, recursion, copies.
 * ModelTest compares its answers with those of the class. It throws IllegalStateException where the document
 * wants a NoSuchElementException, so that a fault of the model itself is not taken for an answer.
 */
final class Model {
    private static final Set<String> KEPT = Set.of("place", "person", "heeds", "sorrow", "brolly", "far", "goes",
            "takes", "leaves", "funeral", "day", "or", "and", "not", "alone", "meant", "at", "with", "ahead", "wept",
            "number");

    /** A fault of a text. */
    private static final class Fault extends Exception {
        private static final long serialVersionUID = 1;
        final int kind;
        final int at;

        Fault(int kind, int at) {
            this.kind = kind;
            this.at = at;
        }
    }

    private record Token(String text, int at, boolean told) {
        boolean isWord() {
            return told && !text.isEmpty() && Character.isLetter(text.charAt(0));
        }

        boolean isNumber() {
            return told && !text.isEmpty() && Character.isDigit(text.charAt(0));
        }

        boolean isName() {
            return isWord() && !KEPT.contains(text);
        }

        boolean is(String other) {
            return told && text.equals(other);
        }
    }

    private record Node(String kind, int sign, int number, List<Node> parts) {
    }

    private record Line(String kind, int who, int what) {
    }

    /** A town and all that is so in it. */
    private static final class State {
        List<String> places = new ArrayList<>();
        List<String> persons = new ArrayList<>();
        List<String> umbrellas = new ArrayList<>();
        List<Boolean> heeds = new ArrayList<>();
        List<Integer> at = new ArrayList<>();
        List<Integer> wept = new ArrayList<>();
        List<Integer> stands = new ArrayList<>();
        List<Integer> carrier = new ArrayList<>();
        List<Integer> funerals = new ArrayList<>();
        /** PERSON, DAY, N and how it is, of each. */
        List<int[]> sorrows = new ArrayList<>();
        int far = 2;
        int day;
        int held;
        Node sentence;
        int ones;

        State copy() {
            State c = new State();
            c.places = new ArrayList<>(places);
            c.persons = new ArrayList<>(persons);
            c.umbrellas = new ArrayList<>(umbrellas);
            c.heeds = new ArrayList<>(heeds);
            c.at = new ArrayList<>(at);
            c.wept = new ArrayList<>(wept);
            c.stands = new ArrayList<>(stands);
            c.carrier = new ArrayList<>(carrier);
            c.funerals = new ArrayList<>(funerals);
            for (int[] sorrow : sorrows) {
                c.sorrows.add(sorrow.clone());
            }
            c.far = far;
            c.day = day;
            c.held = held;
            c.sentence = sentence;
            c.ones = ones;
            return c;
        }

        int placeOf(int u) {
            return carrier.get(u) >= 0 ? at.get(carrier.get(u)) : stands.get(u);
        }

        boolean feels(int u, int[] sorrow) {
            return sorrow[3] == 0 && sorrow[1] - day <= funerals.get(u) * far && placeOf(u) == at.get(sorrow[0]);
        }

        boolean opens(int u, int p) {
            return sorrows.stream().anyMatch(s -> s[0] == p && feels(u, s));
        }

        boolean open(int u) {
            boolean any = funerals.get(u) >= 12;
            for (int p = 0; p < persons.size(); p++) {
                any |= opens(u, p);
            }
            return any;
        }

        int openBits() {
            int bits = 0;
            for (int u = 0; u < umbrellas.size(); u++) {
                bits += open(u) ? 1 << u : 0;
            }
            return bits;
        }

        int openersOf(int p) {
            int bits = 0;
            for (int u = 0; u < umbrellas.size(); u++) {
                bits += opens(u, p) ? 1 << u : 0;
            }
            return bits;
        }

        boolean alone(int p) {
            return at.stream().filter(l -> l.equals(at.get(p))).count() == 1;
        }

        int ahead(int p) {
            return (int) sorrows.stream().filter(s -> s[0] == p && s[3] == 0).count();
        }

        int sum(List<Integer> numbers) {
            return numbers.stream().mapToInt(Integer::intValue).sum();
        }

        int sparedN() {
            return sorrows.stream().filter(s -> s[3] == 1).mapToInt(s -> s[2]).sum();
        }

        boolean pass() {
            if (day >= 200) {
                return false;
            }
            for (int p = 0; p < persons.size(); p++) {
                if (!heeds.get(p) || !alone(p)) {
                    continue;
                }
                for (int[] s : sorrows) {
                    for (int u = 0; u < umbrellas.size(); u++) {
                        if (s[0] == p && feels(u, s)) {
                            s[3] = 1;
                        }
                    }
                }
            }
            day++;
            for (int[] s : sorrows) {
                if (s[3] == 0 && s[1] == day) {
                    s[3] = 2;
                    wept.set(s[0], wept.get(s[0]) + s[2]);
                }
            }
            return true;
        }

        int act(String kind, int who, int what) {
            switch (kind) {
                case "goes":
                    if (at.get(who) == what) {
                        return 1;
                    }
                    at.set(who, what);
                    return 0;
                case "takes":
                    if (placeOf(what) != at.get(who)) {
                        return 1;
                    }
                    if (carrier.get(what) >= 0) {
                        return 2;
                    }
                    carrier.set(what, who);
                    return 0;
                case "leaves":
                    if (carrier.get(what) != who) {
                        return 1;
                    }
                    carrier.set(what, -1);
                    stands.set(what, at.get(who));
                    return 0;
                default:
                    return hold(what);
            }
        }

        private int hold(int place) {
            boolean any = false;
            for (int u = 0; u < umbrellas.size(); u++) {
                if (placeOf(u) == place) {
                    any = true;
                    funerals.set(u, Math.min(12, funerals.get(u) + 1));
                }
            }
            held += any ? 1 : 0;
            return any ? 0 : 1;
        }
    }

    private int[] tape = new int[0];
    private State s = new State();
    private final List<State> kept = new ArrayList<>();
    private final State[] images = new State[2];
    private int fault;
    private int sure = -1;
    private int asked = -1;
    private int[] toldAt = new int[0];
    private int covering = -1;
    private int[] hidden = new int[0];
    private int turn = -1;
    private String tag = "";
    private final int[] told = {-1, -1, -1, -1};

    // ---- tape and texts

    int feed(int... numbers) {
        if (tape.length + 20 > 940) {
            return -1;
        }
        int[] longer = Arrays.copyOf(tape, tape.length + 20);
        for (int i = 0; i < 20; i++) {
            longer[tape.length + i] = numbers[i / 4] >> (24 - i % 4 * 8) & 255;
        }
        tape = longer;
        return tape.length;
    }

    boolean end(int n) {
        if (n < 0 || n > tape.length) {
            return false;
        }
        tape = Arrays.copyOf(tape, n);
        return true;
    }

    private int[] taken() {
        int[] was = tape;
        tape = new int[0];
        return was;
    }

    private List<Token> tokens;
    private int i;

    private void scan(int[] bytes, int most) {
        tokens = new ArrayList<>();
        i = 0;
        int k = 0;
        while (k < bytes.length && k < most) {
            int from = k;
            StringBuilder run = new StringBuilder();
            while (k < bytes.length && (bytes[k] >= 'a' && bytes[k] <= 'z' || bytes[k] >= '0' && bytes[k] <= '9')) {
                run.append((char) bytes[k++]);
            }
            if (run.length() > 0) {
                tokens.add(new Token(run.toString(), from, run.toString().matches("[a-z]{1,7}|[0-9]{1,3}")));
            } else {
                if (bytes[k] != 32 && bytes[k] != 10) {
                    tokens.add(new Token("" + (char) bytes[k], k, ";<=>()".indexOf(bytes[k]) >= 0));
                }
                k++;
            }
        }
        boolean tooLong = bytes.length > most;
        tokens.add(new Token(tooLong ? "too long" : "", tooLong ? most : bytes.length, !tooLong));
    }

    private Token here() {
        return tokens.get(i);
    }

    private boolean atEnd() {
        return here().is("");
    }

    private Token need(boolean right) throws Fault {
        if (!right) {
            throw new Fault(1, here().at());
        }
        return tokens.get(i++);
    }

    private void needText(String text) throws Fault {
        need(here().is(text));
    }

    private int needNumber(int least, int greatest) throws Fault {
        Token t = need(here().isNumber());
        int value = Integer.parseInt(t.text());
        if (value < least || value > greatest) {
            throw new Fault(2, t.at());
        }
        return value;
    }

    private int needKnown(List<String> names) throws Fault {
        Token t = need(here().isName());
        if (!names.contains(t.text())) {
            throw new Fault(3, t.at());
        }
        return names.indexOf(t.text());
    }

    private String needNew(State t) throws Fault {
        Token name = need(here().isName());
        if (t.places.contains(name.text()) || t.persons.contains(name.text()) || t.umbrellas.contains(name.text())) {
            throw new Fault(3, name.at());
        }
        return name.text();
    }

    private void room(int has, int most, int at) throws Fault {
        if (has >= most) {
            throw new Fault(4, at);
        }
    }

    int town() {
        scan(taken(), 900);
        State t = new State();
        boolean[] farTold = new boolean[1];
        int lines = 0;
        try {
            while (!atEnd()) {
                townLine(t, farTold);
                needText(";");
                lines++;
            }
        } catch (Fault f) {
            fault = f.kind;
            return -1 - f.at;
        }
        fault = 0;
        s = t;
        kept.clear();
        return lines;
    }

    private void townLine(State t, boolean[] farTold) throws Fault {
        Token first = need(here().is("place") || here().is("person") || here().is("sorrow") || here().is("brolly")
                || here().is("far"));
        switch (first.text()) {
            case "place":
                room(t.places.size(), 5, first.at());
                t.places.add(needNew(t));
                break;
            case "person":
                room(t.persons.size(), 7, first.at());
                String name = needNew(t);
                t.at.add(needKnown(t.places));
                t.persons.add(name);
                t.wept.add(0);
                t.heeds.add(here().is("heeds"));
                i += here().is("heeds") ? 1 : 0;
                break;
            case "sorrow":
                room(t.sorrows.size(), 14, first.at());
                t.sorrows.add(new int[] {needKnown(t.persons), needNumber(1, 199), needNumber(1, 20), 0});
                break;
            case "brolly":
                room(t.umbrellas.size(), 6, first.at());
                String umbrella = needNew(t);
                t.stands.add(needKnown(t.places));
                t.funerals.add(needNumber(0, 12));
                t.carrier.add(-1);
                t.umbrellas.add(umbrella);
                break;
            default:
                if (farTold[0]) {
                    throw new Fault(3, first.at());
                }
                farTold[0] = true;
                t.far = needNumber(1, 5);
        }
    }

    int book(int lives) {
        if (lives != 0 && lives != 1) {
            return -1000;
        }
        scan(taken(), 400);
        List<Line> lines = new ArrayList<>();
        try {
            while (!atEnd()) {
                lines.add(bookLine(lines.size()));
                needText(";");
            }
        } catch (Fault f) {
            fault = f.kind;
            return -2 - f.at;
        }
        fault = 0;
        State lived = s.copy();
        int right = 0;
        int why = 0;
        while (right < lines.size() && why == 0) {
            why = liveLine(lived, lines.get(right));
            right += why == 0 ? 1 : 0;
        }
        told[0] = why;
        told[1] = right;
        told[2] = lived.day;
        told[3] = lived.openBits();
        if (lives == 1) {
            keep();
            s = lived;
        }
        return why == 0 ? -1 : right;
    }

    private Line bookLine(int before) throws Fault {
        Token first = need(here().isName() || here().is("funeral") || here().is("day"));
        if (first.isName() && !s.persons.contains(first.text())) {
            throw new Fault(3, first.at());
        }
        room(before, 40, first.at());
        if (first.is("funeral")) {
            return new Line("funeral", 0, needKnown(s.places));
        }
        if (first.is("day")) {
            return new Line("day", 0, needNumber(1, 60));
        }
        Token verb = need(here().is("goes") || here().is("takes") || here().is("leaves"));
        int who = s.persons.indexOf(first.text());
        return new Line(verb.text(), who, needKnown(verb.is("goes") ? s.places : s.umbrellas));
    }

    private static int liveLine(State lived, Line line) {
        if (line.kind().equals("day")) {
            if (lived.day + line.what() > 200) {
                return 41;
            }
            for (int d = 0; d < line.what(); d++) {
                lived.pass();
            }
            return 0;
        }
        int why = lived.act(line.kind(), line.who(), line.what());
        return why == 0 ? 0 : why + 10 * List.of("goes", "takes", "leaves", "funeral").indexOf(line.kind());
    }

    private int ones;

    int sentence() {
        scan(taken(), 200);
        ones = 0;
        Node read;
        try {
            read = cond(1);
            need(atEnd());
        } catch (Fault f) {
            fault = f.kind;
            return -1 - f.at;
        }
        fault = 0;
        s.sentence = read;
        s.ones = ones;
        return ones;
    }

    private Node cond(int depth) throws Fault {
        List<Node> parts = new ArrayList<>(List.of(allOf(depth)));
        while (here().is("or")) {
            i++;
            parts.add(allOf(depth));
        }
        return new Node("or", 0, 0, parts);
    }

    private Node allOf(int depth) throws Fault {
        List<Node> parts = new ArrayList<>(List.of(one(depth)));
        while (here().is("and")) {
            i++;
            parts.add(one(depth));
        }
        return new Node("and", 0, 0, parts);
    }

    private Node one(int depth) throws Fault {
        Token t = need(here().told() && List.of("not", "(", "heeds", "alone", "meant", "at", "with", "ahead", "wept",
                "number").contains(here().text()));
        room(ones, 20, t.at());
        room(depth, 9, t.at());
        ones++;
        switch (t.text()) {
            case "not":
                return new Node("not", 0, 0, List.of(one(depth + 1)));
            case "(":
                Node inner = cond(depth + 1);
                needText(")");
                return inner;
            case "at":
                return new Node("at", 0, needKnown(s.places), List.of());
            case "with":
                return new Node("with", 0, needKnown(s.umbrellas), List.of());
            case "ahead": case "wept": case "number":
                Token sign = need(here().is("<") || here().is("=") || here().is(">"));
                return new Node(t.text(), sign.text().charAt(0) - '=', needNumber(0, 999), List.of());
            default:
                return new Node(t.text(), 0, 0, List.of());
        }
    }

    private boolean holds(Node n, int p) {
        switch (n.kind()) {
            case "or": return n.parts().stream().anyMatch(part -> holds(part, p));
            case "and": return n.parts().stream().allMatch(part -> holds(part, p));
            case "not": return !holds(n.parts().get(0), p);
            case "heeds": return s.heeds.get(p);
            case "alone": return s.alone(p);
            case "meant": return s.openersOf(p) != 0;
            case "at": return s.at.get(p) == n.number();
            case "with": return s.carrier.get(n.number()) == p;
            case "ahead": return Integer.compare(s.ahead(p), n.number()) == n.sign();
            case "wept": return Integer.compare(s.wept.get(p), n.number()) == n.sign();
            default: return Integer.compare(p, n.number()) == n.sign();
        }
    }

    int said(int k) {
        if (s.sentence == null) {
            return -1;
        }
        List<Integer> of = new ArrayList<>();
        for (int p = 0; p < s.persons.size(); p++) {
            if (holds(s.sentence, p)) {
                of.add(p);
            }
        }
        return k == -1 ? of.size() : k >= 0 && k < of.size() ? of.get(k) : -1;
    }

    int fault() {
        return fault;
    }

    int told(int what) {
        return what >= 0 && what < 4 ? told[what] : -1;
    }

    // ---- what is so

    private static void need(boolean right, String what) {
        if (!right) {
            throw new IllegalStateException(what);
        }
    }

    private boolean person(int p) {
        return p >= 0 && p < s.persons.size();
    }

    private boolean umbrella(int u) {
        return u >= 0 && u < s.umbrellas.size();
    }

    private boolean place(int l) {
        return l >= 0 && l < s.places.size();
    }

    int person(int p, int what) {
        need(person(p) && what >= 0 && what <= 6, "person");
        int carries = 0;
        for (int u = 0; u < s.umbrellas.size(); u++) {
            carries += s.carrier.get(u) == p ? 1 << u : 0;
        }
        return new int[] {s.at.get(p), s.heeds.get(p) ? 1 : 0, s.ahead(p), s.wept.get(p), carries, s.openersOf(p),
            s.alone(p) ? 1 : 0}[what];
    }

    int umbrella(int u, int what) {
        need(umbrella(u) && what >= 0 && what <= 5, "umbrella");
        int whom = 0;
        for (int p = 0; p < s.persons.size(); p++) {
            whom += s.opens(u, p) ? 1 << p : 0;
        }
        return new int[] {s.placeOf(u), s.carrier.get(u), s.funerals.get(u), s.funerals.get(u) * s.far,
            s.open(u) ? 1 : 0, whom}[what];
    }

    int sorrow(int n, int what) {
        need(n >= 0 && n < s.sorrows.size() && what >= 0 && what <= 3, "sorrow");
        return s.sorrows.get(n)[what];
    }

    int place(int l, int what) {
        if (!place(l) || what < 0 || what > 1) {
            return -1;
        }
        int bits = 0;
        for (int k = 0; k < (what == 0 ? s.persons.size() : s.umbrellas.size()); k++) {
            bits += (what == 0 ? s.at.get(k) : s.placeOf(k)) == l ? 1 << k : 0;
        }
        return bits;
    }

    int now(int what) {
        int carried = 0;
        for (int u = 0; u < s.umbrellas.size(); u++) {
            carried += s.carrier.get(u) >= 0 ? 1 << u : 0;
        }
        int meant = 0;
        for (int p = 0; p < s.persons.size(); p++) {
            meant += s.openersOf(p) != 0 ? 1 << p : 0;
        }
        int[] all = {s.day, s.openBits(), carried, meant, (int) s.sorrows.stream().filter(x -> x[3] == 0).count(),
            (int) s.sorrows.stream().filter(x -> x[3] == 1).count(), s.sum(s.wept), s.held};
        return what >= 0 && what < all.length ? all[what] : -1;
    }

    int count(int what) {
        int[] all = {s.places.size(), s.persons.size(), s.sorrows.size(), s.umbrellas.size(), s.far, tape.length};
        return what >= 0 && what < all.length ? all[what] : -1;
    }

    // ---- acts

    private void keep() {
        kept.add(s.copy());
        if (kept.size() > 8) {
            kept.remove(0);
        }
    }

    private int done(String kind, int who, int what) {
        State before = s.copy();
        int why = s.act(kind, who, what);
        if (why == 0) {
            State after = s;
            s = before;
            keep();
            s = after;
        }
        return why;
    }

    int go(int p, int l) {
        return person(p) && place(l) ? done("goes", p, l) : -1;
    }

    int take(int p, int u) {
        return person(p) && umbrella(u) ? done("takes", p, u) : -1;
    }

    int leave(int p, int u) {
        return person(p) && umbrella(u) ? done("leaves", p, u) : -1;
    }

    int funeral(int l) {
        return place(l) ? done("funeral", 0, l) : -1;
    }

    int days(int n) {
        if (n < 1 || n > 60) {
            return -1;
        }
        if (s.day < 200) {
            keep();
        }
        int went = 0;
        while (went < n && s.pass()) {
            went++;
        }
        return went;
    }

    int undo() {
        if (kept.isEmpty()) {
            return -1;
        }
        State back = kept.remove(kept.size() - 1);
        back.sentence = s.sentence;
        s = back;
        return kept.size();
    }

    // ---- who will be sorry

    int next(int p) {
        return s.sorrows.stream().filter(x -> x[0] == p && x[3] == 0).mapToInt(x -> x[1]).min().orElse(-1);
    }

    int sorry(int n) {
        if (n < 1 || n > 199) {
            return -1;
        }
        int bits = 0;
        for (int[] x : s.sorrows) {
            bits |= x[3] == 0 && x[1] - s.day <= n ? 1 << x[0] : 0;
        }
        return bits;
    }

    int weeps(int n) {
        if (n < 1 || n > 60) {
            return -1;
        }
        State t = s.copy();
        for (int d = 0; d < n; d++) {
            t.pass();
        }
        return t.sum(t.wept) - s.sum(s.wept);
    }

    int meant() {
        int[] b = taken();
        if (b.length == 0 || b.length > 16 || b.length % 2 == 1) {
            return -1;
        }
        for (int k = 0; k < b.length; k += 2) {
            if (b[k] >> s.persons.size() != 0 || b[k + 1] > 1) {
                return -1;
            }
        }
        List<Integer> sets = new ArrayList<>();
        for (int set = 0; set < 1 << s.persons.size(); set++) {
            boolean fits = true;
            for (int k = 0; k < b.length; k += 2) {
                fits &= (set & b[k]) == 0 == (b[k + 1] == 0);
            }
            if (fits) {
                sets.add(set);
            }
        }
        if (!sets.isEmpty()) {
            sure = sets.stream().reduce(sets.get(0), (x, y) -> x & y);
            asked = -1;
            int least = Integer.MAX_VALUE;
            for (int p = 0; p < s.persons.size(); p++) {
                int bit = 1 << p;
                int in = (int) sets.stream().filter(set -> (set & bit) != 0).count();
                int apart = Math.abs(in - (sets.size() - in));
                if (apart < least) {
                    least = apart;
                    asked = p;
                }
            }
        }
        return sets.size();
    }

    int surely() {
        return sure;
    }

    int ask() {
        return asked;
    }

    int far() {
        int[] b = taken();
        if (b.length == 0 || b.length > 18 || b.length % 3 != 0) {
            return -1;
        }
        int bits = 0;
        for (int f = 1; f <= 5; f++) {
            boolean fits = true;
            for (int k = 0; k < b.length; k += 3) {
                if (b[k] > 11 || b[k + 1] < 1 || b[k + 1] > 199 || b[k + 2] > 1) {
                    return -1;
                }
                fits &= (b[k] * f >= b[k + 1] ? 1 : 0) == b[k + 2];
            }
            bits += fits ? 1 << f : 0;
        }
        return bits;
    }

    // ---- plans

    int toldOf(int u, int k) {
        if (!umbrella(u) || k < 1 || k > 4 || s.day + k > 200) {
            return -1;
        }
        int[] best = new int[k + 1];
        best[k] = -1;
        tell(s.copy(), u, 0, new int[k], best);
        toldAt = Arrays.copyOf(best, k);
        return best[k];
    }

    private void tell(State t, int u, int depth, int[] tried, int[] best) {
        int k = tried.length;
        if (depth == k) {
            if (t.sparedN() - s.sparedN() > best[k]) {
                System.arraycopy(tried, 0, best, 0, k);
                best[k] = t.sparedN() - s.sparedN();
            }
            return;
        }
        for (int l = 0; l < s.places.size(); l++) {
            State next = t.copy();
            next.carrier.set(u, -1);
            next.stands.set(u, l);
            next.pass();
            tried[depth] = l;
            tell(next, u, depth + 1, tried, best);
        }
    }

    int toldAt(int k) {
        return k >= 0 && k < toldAt.length ? toldAt[k] : -1;
    }

    int cover() {
        int best = -1;
        for (int set = 0; set < 1 << s.umbrellas.size(); set++) {
            if ((best < 0 || Integer.bitCount(set) < Integer.bitCount(best)) && coversFrom(set, 0, new int[5])) {
                best = set;
            }
        }
        if (best < 0) {
            return -1;
        }
        covering = best;
        return Integer.bitCount(best);
    }

    /** Sets those of the set in places one by one: reach has the greatest of those set in each place. */
    private boolean coversFrom(int set, int u, int[] reach) {
        if (u == s.umbrellas.size()) {
            for (int[] x : s.sorrows) {
                int soonest = next(x[0]);
                if (soonest >= 0 && soonest - s.day > reach[s.at.get(x[0])]) {
                    return false;
                }
            }
            return true;
        }
        if ((set >> u & 1) == 0) {
            return coversFrom(set, u + 1, reach);
        }
        for (int l = 0; l < s.places.size(); l++) {
            int[] more = reach.clone();
            more[l] = Math.max(more[l], s.funerals.get(u) * s.far);
            if (coversFrom(set, u + 1, more)) {
                return true;
            }
        }
        return false;
    }

    int covering() {
        return covering;
    }

    int hiding() {
        State t = s.copy();
        int rounds = 0;
        boolean gone = true;
        while (gone && rounds < 10) {
            gone = false;
            rounds++;
            for (int p = 0; p < t.persons.size(); p++) {
                if (t.openersOf(p) != 0 && !t.heeds.get(p) && !t.carrier.contains(p)) {
                    int from = t.at.get(p);
                    int l = 0;
                    t.at.set(p, 0);
                    while (l < t.places.size() && t.openersOf(p) != 0) {
                        l++;
                        t.at.set(p, l);
                    }
                    gone |= l < t.places.size();
                    t.at.set(p, l < t.places.size() ? l : from);
                }
            }
        }
        hidden = t.at.stream().mapToInt(Integer::intValue).toArray();
        return rounds;
    }

    int hidden(int p) {
        return p >= 0 && p < hidden.length ? hidden[p] : -1;
    }

    int turns(int u, int p, int n) {
        if (!umbrella(u) || !person(p) || n < 1 || n > 6 || s.carrier.get(u) == p) {
            return -1;
        }
        State t = s.copy();
        int from = t.placeOf(u);
        t.carrier.set(u, -1);
        // the openings at the end, by both places: all else stays
        boolean[][] opens = new boolean[5][5];
        for (int a = 0; a < s.places.size(); a++) {
            for (int b = 0; b < s.places.size(); b++) {
                t.stands.set(u, a);
                t.at.set(p, b);
                opens[a][b] = t.open(u);
            }
        }
        turn = from;
        if (wins(opens, from, s.at.get(p), n - 1, false)) {
            return 1;
        }
        for (int l = 0; l < s.places.size(); l++) {
            if (wins(opens, l, s.at.get(p), n - 1, false)) {
                turn = l;
                return 1;
            }
        }
        return 0;
    }

    private boolean wins(boolean[][] opens, int a, int b, int left, boolean first) {
        if (left == 0) {
            return opens[a][b];
        }
        for (int l = 0; l < s.places.size(); l++) {
            if (wins(opens, first ? l : a, first ? b : l, left - 1, !first) == first) {
                return first;
            }
        }
        return !first;
    }

    int turn() {
        return turn;
    }

    int tag(int u) {
        if (!umbrella(u)) {
            return -1;
        }
        int c = s.carrier.get(u);
        tag = s.umbrellas.get(u) + (s.open(u) ? " is open" : " is shut")
                + (c >= 0 ? " with " + s.persons.get(c) : " at " + s.places.get(s.stands.get(u)));
        return tag.length();
    }

    int byteAt(int k) {
        return k >= 0 && k < tag.length() ? tag.charAt(k) : -1;
    }

    // ---- draws

    private int x;

    private int draw(int n) {
        x = x * 1103515245 + 12345;
        return (x >>> 8) % n;
    }

    private boolean drawDay(State t) {
        if (t.day >= 200) {
            return false;
        }
        for (int p = 0; p < t.persons.size(); p++) {
            int d = draw(6);
            if (d < 2) {
                t.act("goes", p, draw(t.places.size()));
            } else if (d == 2 && !t.umbrellas.isEmpty()) {
                t.act("takes", p, draw(t.umbrellas.size()));
            } else if (d == 3 && t.carrier.contains(p)) {
                t.act("leaves", p, t.carrier.indexOf(p));
            }
        }
        if (draw(12) == 0) {
            t.act("funeral", 0, draw(t.places.size()));
        }
        return t.pass();
    }

    int drawn(int n, int seed) {
        if (n < 1 || n > 60 || s.persons.isEmpty()) {
            return -1;
        }
        x = seed;
        if (s.day < 200) {
            keep();
        }
        int went = 0;
        while (went < n && drawDay(s)) {
            went++;
        }
        return went;
    }

    int odds(int p, int n, int seed) {
        if (!person(p) || n < 1 || n > 30) {
            return -1;
        }
        int times = 0;
        for (int k = 0; k < n; k++) {
            State t = s.copy();
            x = seed + k;
            for (int d = 0; d < 30; d++) {
                drawDay(t);
            }
            times += t.wept.get(p) > s.wept.get(p) ? 1 : 0;
        }
        return times;
    }

    // ---- images

    boolean image(int k) {
        if (k != 0 && k != 1) {
            return false;
        }
        images[k] = s.copy();
        return true;
    }

    boolean restore(int k) {
        if (k != 0 && k != 1 || images[k] == null) {
            return false;
        }
        s = images[k].copy();
        kept.clear();
        return true;
    }
}
