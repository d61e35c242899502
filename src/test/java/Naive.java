/** A town seen through the face, and the document's plans reckoned by trying everything. */
final class Naive {
    final int places;
    final int persons;
    final int sorrows;
    final int umbrellas;
    final int far;
    int day;
    final int[] at;
    final boolean[] heeds;
    final int[] whose;
    final int[] when;
    final int[] n;
    final boolean[] spared;
    final int[] stands;
    final int[] carrier;
    final int[] funerals;
    int[] best;

    Naive(FuneralUmbrellas x) {
        places = x.count(0);
        persons = x.count(1);
        sorrows = x.count(2);
        umbrellas = x.count(3);
        far = x.count(4);
        day = x.now(0);
        at = new int[persons];
        heeds = new boolean[persons];
        whose = new int[sorrows];
        when = new int[sorrows];
        n = new int[sorrows];
        spared = new boolean[sorrows];
        stands = new int[umbrellas];
        carrier = new int[umbrellas];
        funerals = new int[umbrellas];
        for (int p = 0; p < persons; p++) {
            at[p] = x.person(p, 0);
            heeds[p] = x.person(p, 1) == 1;
        }
        for (int s = 0; s < sorrows; s++) {
            whose[s] = x.sorrow(s, 0);
            when[s] = x.sorrow(s, 1);
            n[s] = x.sorrow(s, 2);
            spared[s] = x.sorrow(s, 3) == 1;
        }
        for (int u = 0; u < umbrellas; u++) {
            stands[u] = x.umbrella(u, 0);
            carrier[u] = x.umbrella(u, 1);
            funerals[u] = x.umbrella(u, 2);
        }
    }

    int place(int u) {
        return carrier[u] >= 0 ? at[carrier[u]] : stands[u];
    }

    boolean feels(int u, int s) {
        return !spared[s] && when[s] > day && when[s] - day <= funerals[u] * far;
    }

    boolean opens(int u, int p) {
        if (place(u) != at[p]) {
            return false;
        }
        for (int s = 0; s < sorrows; s++) {
            if (whose[s] == p && feels(u, s)) {
                return true;
            }
        }
        return false;
    }

    boolean open(int u) {
        for (int p = 0; p < persons; p++) {
            if (opens(u, p)) {
                return true;
            }
        }
        return funerals[u] >= 12;
    }

    boolean alone(int p) {
        for (int q = 0; q < persons; q++) {
            if (q != p && at[q] == at[p]) {
                return false;
            }
        }
        return true;
    }

    void pass() {
        for (int p = 0; p < persons; p++) {
            for (int s = 0; s < sorrows && heeds[p] && alone(p); s++) {
                for (int u = 0; u < umbrellas; u++) {
                    if (whose[s] == p && place(u) == at[p] && feels(u, s)) {
                        spared[s] = true;
                    }
                }
            }
        }
        day++;
    }

    int sumSpared() {
        int sum = 0;
        for (int s = 0; s < sorrows; s++) {
            sum += spared[s] ? n[s] : 0;
        }
        return sum;
    }

    /** TOLD OF: all that is best in k more days; best has the places. */
    int toldOf(int u, int k) {
        int start = sumSpared();
        int[] tried = new int[k];
        int[] most = {-1};
        tell(u, 0, tried, most);
        return most[0] - start;
    }

    private void tell(int u, int depth, int[] tried, int[] most) {
        if (depth == tried.length) {
            if (sumSpared() > most[0]) {
                most[0] = sumSpared();
                best = tried.clone();
            }
            return;
        }
        boolean[] keptSpared = spared.clone();
        int keptStand = stands[u];
        int keptCarrier = carrier[u];
        for (int l = 0; l < places; l++) {
            tried[depth] = l;
            carrier[u] = -1;
            stands[u] = l;
            pass();
            tell(u, depth + 1, tried, most);
            day--;
            System.arraycopy(keptSpared, 0, spared, 0, sorrows);
        }
        stands[u] = keptStand;
        carrier[u] = keptCarrier;
    }

    /** COVER: every umbrella in each place or away; the set in the low bits, its size above; NONE. */
    int cover() {
        int best = Integer.MAX_VALUE;
        int[] set = new int[umbrellas];
        int ways = 1;
        for (int u = 0; u < umbrellas; u++) {
            ways *= places + 1;
        }
        for (int way = 0; way < ways; way++) {
            int rest = way;
            int bits = 0;
            for (int u = 0; u < umbrellas; u++) {
                set[u] = rest % (places + 1) - 1;
                rest /= places + 1;
                bits |= set[u] >= 0 ? 1 << u : 0;
            }
            int value = Integer.bitCount(bits) * 64 + bits;
            if (value < best && covers(set)) {
                best = value;
            }
        }
        return best == Integer.MAX_VALUE ? -1 : best;
    }

    private boolean covers(int[] set) {
        for (int p = 0; p < persons; p++) {
            boolean sorry = false;
            boolean told = false;
            for (int s = 0; s < sorrows; s++) {
                if (whose[s] == p && !spared[s] && when[s] > day) {
                    sorry = true;
                    for (int u = 0; u < umbrellas; u++) {
                        told |= set[u] == at[p] && feels(u, s);
                    }
                }
            }
            if (sorry && !told) {
                return false;
            }
        }
        return true;
    }

    /** HIDING: how many rounds; the persons are where they go. */
    int hide() {
        for (int round = 1; round <= 10; round++) {
            boolean gone = false;
            for (int p = 0; p < persons; p++) {
                gone |= hides(p);
            }
            if (!gone) {
                return round;
            }
        }
        return 10;
    }

    private boolean hides(int p) {
        boolean meant = false;
        boolean carries = false;
        for (int u = 0; u < umbrellas; u++) {
            meant |= opens(u, p);
            carries |= carrier[u] == p;
        }
        if (!meant || carries || heeds[p]) {
            return false;
        }
        int from = at[p];
        for (int l = 0; l < places; l++) {
            at[p] = l;
            boolean any = false;
            for (int u = 0; u < umbrellas; u++) {
                any |= opens(u, p);
            }
            if (!any) {
                return true;
            }
        }
        at[p] = from;
        return false;
    }

    /** TURNS: 1 or 0; best has the place of the first setting. */
    int turns(int u, int p, int moves) {
        int from = place(u);
        int won = -1;
        best = new int[1];
        for (int i = -1; i < places; i++) {
            int l = i < 0 ? from : i;
            carrier[u] = -1;
            stands[u] = l;
            int value = play(u, p, 1, moves);
            if (value > won) {
                won = value;
                best[0] = l;
            }
        }
        return won;
    }

    private int play(int u, int p, int moved, int moves) {
        if (moved == moves) {
            return open(u) ? 1 : 0;
        }
        boolean first = moved % 2 == 0;
        int result = first ? 0 : 1;
        int keptStand = stands[u];
        int keptAt = at[p];
        for (int l = 0; l < places; l++) {
            if (first) {
                stands[u] = l;
            } else {
                at[p] = l;
            }
            int value = play(u, p, moved + 1, moves);
            result = first ? Math.max(result, value) : Math.min(result, value);
        }
        stands[u] = keptStand;
        at[p] = keptAt;
        return result;
    }
}
