import java.util.ArrayList;
import java.util.Arrays;
import java.util.List;
import java.util.regex.Matcher;
import java.util.regex.Pattern;

/**
 * The document's words once more, as literally as can be and without regard to speed: AHEAD copies
 * the whole town and plays all chimneys hour by hour. AgreementTest holds SmokeRoofs against it.
 */
public final class PlainTown {
    static class Plain {
        int owner, cell, high = 1, fire = 20, first = 0, length = 24;
        int out, town, burnt;
        int[] air = new int[36], settled = new int[36];
        int burns(int clock) { return fire; }
        int worth() { return 0; }
        int soot() { return 30; }
        int sooty() { return Math.max(0, soot() - 3 * high); }
        boolean lit(int clock) { return ((clock - first) % 24 + 24) % 24 < length; }
        Plain copyAs(int kind) {
            Plain p = make(kind);
            p.owner = owner; p.cell = cell; p.high = high; p.fire = fire; p.first = first; p.length = length;
            p.out = out; p.town = town; p.burnt = burnt;
            p.air = air.clone(); p.settled = settled.clone();
            return p;
        }
        int kind() {
            for (int k = 0; k < 7; k++) if (make(k).getClass() == getClass()) return k;
            throw new IllegalStateException();
        }
    }
    static class Baker extends Plain { int worth() { return 2; } }
    static class Tanner extends Plain { int worth() { return -3; } }
    static class Forge extends Plain {
        int burns(int clock) { return 2 * super.burns(clock); }
        int worth() { return -1; }
    }
    static class Oven extends Baker {
        int burns(int clock) { return clock >= 12 ? 0 : super.burns(clock); }
        int worth() { return super.worth() + 1; }
    }
    static class Tar extends Tanner {
        int worth() { return 2 * super.worth(); }
        int soot() { return super.soot() + 20; }
    }
    static class Kiln extends Forge {
        int burns(int clock) { return super.burns(clock) + 5; }
        int soot() { return super.soot() + 30; }
    }
    static Plain make(int kind) {
        switch (kind) {
            case 0: return new Plain();
            case 1: return new Baker();
            case 2: return new Tanner();
            case 3: return new Forge();
            case 4: return new Oven();
            case 5: return new Tar();
            default: return new Kiln();
        }
    }
    static boolean isA(Plain p, int kind) { return make(kind).getClass().isInstance(p); }

    static final class State {
        int hour = 0, z = 1;
        int[] roofs = new int[36], winds = new int[24], books = new int[6], spots = new int[10];
        List<Plain> chimneys = new ArrayList<>();
        int lastSettled;
        int[] dirt = new int[6];
        /** What settled in the last hour, by chimney and cell. */
        int[][] last = new int[8][36];
        State() { Arrays.fill(roofs, -1); Arrays.fill(spots, -1); }
        State copy() {
            State s = new State();
            s.hour = hour; s.z = z;
            s.roofs = roofs.clone(); s.winds = winds.clone(); s.books = books.clone(); s.spots = spots.clone();
            for (Plain p : chimneys) s.chimneys.add(p.copyAs(p.kind()));
            return s;
        }
        /** The whole hour of the document, (a), (b), (c), one step after the other. */
        int hour(boolean litOrNot, int clock) {
            for (Plain p : chimneys) if (litOrNot || p.lit(clock)) {
                int b = p.burns(clock);
                p.air[p.cell] += b; p.burnt += b;
            }
            int wind = winds[clock];
            for (Plain p : chimneys) {
                int[] next = new int[36];
                for (int row = 0; row < 6; row++) for (int column = 0; column < 6; column++) {
                    int parts = p.air[6 * row + column];
                    int r = row + (wind == 3 ? 1 : wind == 1 ? -1 : 0);
                    int c = column + (wind == 2 ? 1 : wind == 4 ? -1 : 0);
                    if (wind == 0) p.town += parts;
                    else if (r < 0 || r > 5 || c < 0 || c > 5) p.out += parts;
                    else next[6 * r + c] += parts;
                }
                p.air = next;
            }
            int sum = 0;
            for (int i = 0; i < chimneys.size(); i++) for (int cell = 0; cell < 36; cell++) {
                Plain p = chimneys.get(i);
                int parts = p.air[cell] * p.sooty() / 100;
                last[i][cell] = parts;
                p.air[cell] -= parts; p.settled[cell] += parts; sum += parts;
                int of = roofs[cell];
                if (of >= 0 && p.worth() < 0) dirt[of] += parts;
                if (of >= 0 && of != p.owner) {
                    books[of] -= parts * p.worth();
                    books[p.owner] += parts * p.worth();
                }
            }
            return sum;
        }
        int hours(int n) {
            int sum = 0;
            for (int i = 0; i < n; i++) { sum += hour(false, hour % 24); hour++; }
            return sum;
        }
    }

    static final int BEYOND = 0, FULL = 1, KIND = 2, NONE = 3, STATE = 4, MISSING = 5, SIZE = 6;
    State s = new State();
    State kept = null;
    StringBuilder tape = new StringBuilder();
    int[] bits = new int[4];
    int[][] sheets = new int[4][];
    int[] told = new int[7];

    int found(int f) { told[f]++; return -1000001 - f; }
    static boolean out(int v, int least, int most) { return v < least || v > most; }
    boolean noChimney(int c) { return out(c, 0, s.chimneys.size() - 1); }
    Plain get(State of, int c) { return of.chimneys.get(c); }

    public int roof(int cell, int owner) {
        if (out(cell, 0, 35) || out(owner, -1, 5)) return found(BEYOND);
        int was = s.roofs[cell]; s.roofs[cell] = owner; return was;
    }
    public int wind(int clock, int v) {
        if (out(clock, 0, 23) || out(v, 0, 4)) return found(BEYOND);
        int was = s.winds[clock]; s.winds[clock] = v; return was;
    }
    public int chimney(int kind, int owner, int cell) {
        if (out(kind, 0, 6) || out(owner, 0, 5) || out(cell, 0, 35)) return found(BEYOND);
        if (s.chimneys.size() == 8) return found(FULL);
        Plain p = make(kind); p.owner = owner; p.cell = cell; s.chimneys.add(p);
        return s.chimneys.size() - 1;
    }
    public int of(int chimney, int what) {
        if (noChimney(chimney) || out(what, 0, 9)) return found(BEYOND);
        Plain p = get(s, chimney);
        int clock = s.hour % 24;
        int[] all = {p.kind(), p.owner, p.cell, p.high, p.fire, p.first, p.length, p.worth(), p.sooty(),
            p.lit(clock) ? p.burns(clock) : 0};
        return all[what];
    }
    static void set(State in, int chimney, int what, int v) {
        Plain p = in.chimneys.get(chimney);
        if (what == 0) in.chimneys.set(chimney, p.copyAs(v));
        if (what == 1) p.owner = v;
        if (what == 2) p.cell = v;
        if (what == 3) p.high = v;
        if (what == 4) p.fire = v;
        if (what == 5) p.first = v;
        if (what == 6) p.length = v;
    }
    public int change(int chimney, int what, int v) {
        int[] most = {6, 5, 35, 9, 99, 23, 24};
        if (noChimney(chimney) || out(what, 0, 6) || out(v, 0, most[what])) return found(BEYOND);
        int was = of(chimney, what); set(s, chimney, what, v); return was;
    }
    public int book(int owner) { return out(owner, 0, 5) ? found(BEYOND) : s.books[owner]; }
    public int strike() {
        int sum = Arrays.stream(s.books).filter(b -> b > 0).sum();
        Arrays.fill(s.books, 0); return sum;
    }
    int sum(boolean air, int chimney, int cell) {
        int sum = 0;
        for (int i = 0; i < s.chimneys.size(); i++) for (int c = 0; c < 36; c++) {
            if ((chimney < 0 || i == chimney) && (cell < 0 || c == cell)) {
                sum += air ? get(s, i).air[c] : get(s, i).settled[c];
            }
        }
        return sum;
    }
    public int air(int chimney, int cell) {
        if (out(chimney, -1, s.chimneys.size() - 1) || out(cell, -1, 35)) return found(BEYOND);
        return sum(true, chimney, cell);
    }
    public int settled(int chimney, int cell) {
        if (out(chimney, -1, s.chimneys.size() - 1) || out(cell, -1, 35)) return found(BEYOND);
        return sum(false, chimney, cell);
    }
    public int parts(int chimney, int what) {
        if (noChimney(chimney) || out(what, 0, 2)) return found(BEYOND);
        Plain p = get(s, chimney);
        return what == 0 ? p.out : what == 1 ? p.town : p.burnt;
    }
    public int thickest() {
        int best = 0;
        for (int c = 1; c < 36; c++) if (sum(true, -1, c) > sum(true, -1, best)) best = c;
        return best;
    }
    public int touched(int chimney) {
        if (noChimney(chimney)) return found(BEYOND);
        int set = 0;
        for (int c = 0; c < 36; c++) if (s.roofs[c] >= 0 && get(s, chimney).settled[c] > 0) set |= 1 << s.roofs[c];
        return set;
    }
    public int hours(int n) {
        if (out(n, 1, 48)) return found(BEYOND);
        if (s.hour + n > 9999) return found(STATE);
        return s.hours(n);
    }
    public int ahead(int n, int what) {
        if (out(n, 0, 72) || out(what, 0, 14)) return found(BEYOND);
        if (s.hour + n > 9999) return found(STATE);
        State t = s.copy();
        int settled = t.hours(n);
        if (what == 0) return settled;
        if (what == 1) return t.chimneys.stream().mapToInt(p -> p.town).sum();
        if (what == 2) return t.chimneys.stream().mapToInt(p -> p.out).sum();
        return what < 9 ? t.books[what - 3] : t.dirt[what - 9];
    }
    public int clear(int chimney) {
        if (noChimney(chimney)) return found(BEYOND);
        if (s.hour > 9927) return found(STATE);
        for (int n = 0; n <= 72; n++) {
            State t = s.copy(); t.hours(n);
            if (Arrays.stream(get(t, chimney).air).sum() == 0) return n;
        }
        return found(NONE);
    }
    public int reaches(int chimney, int owner) {
        if (noChimney(chimney) || out(owner, 0, 5)) return found(BEYOND);
        if (s.hour > 9927) return found(STATE);
        State t = s.copy();
        for (int n = 1; n <= 72; n++) {
            t.hours(1);
            for (int c = 0; c < 36; c++) if (t.roofs[c] == owner && t.last[chimney][c] > 0) return n;
        }
        return found(NONE);
    }
    int bookWith(int chimney, int what, int v, int owner, int n) {
        State t = s.copy(); set(t, chimney, what, v); t.hours(n); return t.books[owner];
    }
    public int place(int chimney, int n) {
        if (noChimney(chimney) || out(n, 1, 24)) return found(BEYOND);
        if (s.hour + n > 9999) return found(STATE);
        int best = 0, o = get(s, chimney).owner;
        for (int v = 1; v < 36; v++) if (bookWith(chimney, 2, v, o, n) > bookWith(chimney, 2, best, o, n)) best = v;
        return best;
    }
    public int highFor(int chimney, int n) {
        if (noChimney(chimney) || out(n, 1, 24)) return found(BEYOND);
        if (s.hour + n > 9999) return found(STATE);
        int best = 0, o = get(s, chimney).owner;
        for (int v = 1; v < 10; v++) if (bookWith(chimney, 3, v, o, n) > bookWith(chimney, 3, best, o, n)) best = v;
        return best;
    }
    public int gains(int chimney, int n) {
        if (noChimney(chimney) || out(n, 1, 24)) return found(BEYOND);
        int high = get(s, chimney).high;
        if (high == 9 || s.hour + n > 9999) return found(STATE);
        int set = 0;
        for (int o = 0; o < 6; o++) if (bookWith(chimney, 3, high + 1, o, n) > bookWith(chimney, 3, high, o, n)) set |= 1 << o;
        return set;
    }
    int dirt(State t, int owner, int n) { t.hours(n); return t.dirt[owner]; }
    public int when(int chimney, int owner, int n) {
        if (noChimney(chimney) || out(owner, 0, 5) || out(n, 1, 24)) return found(BEYOND);
        if (s.hour + n > 9999) return found(STATE);
        int best = -1, least = 0;
        for (int c = 0; c < 24; c++) {
            State t = s.copy(); set(t, chimney, 5, c);
            int d = dirt(t, owner, n);
            if (best < 0 || d < least) { best = c; least = d; }
        }
        return best;
    }
    public int build(int owner, int n) {
        if (out(owner, 0, 5) || out(n, 1, 24)) return found(BEYOND);
        if (s.hour + n > 9999) return found(STATE);
        int best = -1, most = 0;
        for (int c = 0; c < 36; c++) if (s.roofs[c] == -1) {
            State t = s.copy(); t.roofs[c] = owner; t.hours(n);
            if (best < 0 || t.books[owner] > most) { best = c; most = t.books[owner]; }
        }
        return best < 0 ? found(NONE) : best;
    }
    public int washing(int owner, int n) {
        if (out(owner, 0, 5) || out(n, 1, 12)) return found(BEYOND);
        if (s.hour + n > 9999) return found(STATE);
        int best = -1, most = 0;
        for (int set = 0; set < 1 << s.chimneys.size(); set++) {
            State t = s.copy();
            int fire = 0;
            for (int i = 0; i < s.chimneys.size(); i++) {
                if ((set & 1 << i) == 0) get(t, i).length = 0; else fire += get(t, i).fire;
            }
            if (dirt(t, owner, n) == 0 && (best < 0 || fire > most)) { best = set; most = fire; }
        }
        return best < 0 ? found(NONE) : best;
    }
    public int worst(int owner, int n) {
        if (out(owner, 0, 5) || out(n, 1, 24)) return found(BEYOND);
        if (s.hour + n > 9999) return found(STATE);
        int best = -1, least = 0;
        for (int i = 0; i < s.chimneys.size(); i++) {
            State t = s.copy(); get(t, i).length = 0;
            int d = dirt(t, owner, n);
            if (best < 0 || d < least) { best = i; least = d; }
        }
        return best < 0 ? found(NONE) : best;
    }
    public int over(int cell) {
        if (out(cell, 0, 35)) return found(BEYOND);
        int set = 0;
        for (int i = 0; i < s.chimneys.size(); i++) if (get(s, i).air[cell] > 0) set |= 1 << i;
        return set;
    }
    public int canHave(int kind, int clock, int cell, int h) {
        if (out(kind, 0, 6) || out(clock, 0, 23) || out(cell, 0, 35) || out(h, 1, 12)) return found(BEYOND);
        State t = s.copy();
        for (Plain p : t.chimneys) p.air = new int[36];
        for (int i = 0; i < h; i++) t.hour(true, (clock + i) % 24);
        int set = 0;
        for (int i = 0; i < t.chimneys.size(); i++) if (isA(get(t, i), kind) && get(t, i).air[cell] > 0) set |= 1 << i;
        return set;
    }
    public int clocks(int chimney, int cell, int h) {
        if (noChimney(chimney) || out(cell, 0, 35) || out(h, 1, 12)) return found(BEYOND);
        int set = 0;
        for (int c = 0; c < 24; c++) {
            int row = get(s, chimney).cell / 6, column = get(s, chimney).cell % 6;
            boolean in = true;
            for (int i = 0; i < h; i++) {
                int w = s.winds[(c + i) % 24];
                row += w == 1 ? -1 : w == 3 ? 1 : 0;
                column += w == 4 ? -1 : w == 2 ? 1 : 0;
                in &= w != 0 && row >= 0 && row < 6 && column >= 0 && column < 6;
            }
            if (in && 6 * row + column == cell) set |= 1 << c;
        }
        return set;
    }
    int draw() { s.z = s.z * 1103515245 + 12345; return s.z >>> 8; }
    public int weather(int n) {
        if (out(n, 1, 24)) return found(BEYOND);
        for (int i = 0; i < n; i++) { int c = draw() % 24; int v = draw() % 5; s.winds[c] = v; }
        return (int) Arrays.stream(s.winds).filter(w -> w == 0).count();
    }
    public int seed(int v) { int was = s.z; s.z = v; return was; }
    public int feed(int bytes, int n) {
        if (out(n, 1, 4)) return found(BEYOND);
        if (tape.length() + n > 120) return found(FULL);
        for (int i = n; i-- > 0; ) tape.append((char) (bytes >> 8 * i & 255));
        return tape.length();
    }
    public int wipe() { int had = tape.length(); tape.setLength(0); return had; }

    /** By whole tokens with their places, and a copy of the town that is kept only without a fault. */
    public int text() {
        String all = tape.toString();
        tape.setLength(0);
        List<String> tokens = new ArrayList<>();
        List<Integer> places = new ArrayList<>();
        Matcher m = Pattern.compile("[a-z]+|[0-9]+|[^ ]").matcher(all);
        while (m.find()) { tokens.add(m.group()); places.add(m.start()); }
        tokens.add(""); places.add(all.length());
        State before = s.copy();
        int[] at = {0};
        int items = items(tokens, at);
        if (items >= 0) return items;
        s = before;
        return -1 - places.get(at[0]);
    }
    static int number(List<String> t, int[] at, int most) {
        String n = t.get(at[0]);
        if (!n.matches("[0-9]+") || new java.math.BigInteger(n).compareTo(java.math.BigInteger.valueOf(most)) > 0) return -1;
        at[0]++;
        return Integer.parseInt(n);
    }
    static boolean word(List<String> t, int[] at, String w) {
        if (!t.get(at[0]).equals(w)) return false;
        at[0]++;
        return true;
    }
    int items(List<String> t, int[] at) {
        for (int n = 1; ; n++) {
            if (!item(t, at)) return -1;
            if (t.get(at[0]).isEmpty()) return n;
            if (!word(t, at, ";")) return -1;
        }
    }
    boolean item(List<String> t, int[] at) {
        int a, b;
        if (word(t, at, "roof")) {
            if ((a = number(t, at, 35)) < 0 || !word(t, at, "of") || (b = number(t, at, 5)) < 0) return false;
            s.roofs[a] = b;
            return true;
        }
        if (word(t, at, "wind")) {
            if ((a = number(t, at, 23)) < 0 || (b = number(t, at, 4)) < 0) return false;
            s.winds[a] = b;
            while (t.get(at[0]).matches("[0-9]+")) {
                a++;
                if (a > 23 || (b = number(t, at, 4)) < 0) return false;
                s.winds[a] = b;
            }
            return true;
        }
        int kind = Arrays.asList("chimney", "baker", "tanner", "forge", "oven", "tar", "kiln").indexOf(t.get(at[0]));
        if (kind < 0 || s.chimneys.size() == 8) return false;
        at[0]++;
        Plain p = make(kind);
        if (!word(t, at, "of") || (p.owner = number(t, at, 5)) < 0) return false;
        if (!word(t, at, "at") || (p.cell = number(t, at, 35)) < 0) return false;
        if (word(t, at, "high") && (p.high = number(t, at, 9)) < 0) return false;
        if (word(t, at, "fire") && (p.fire = number(t, at, 99)) < 0) return false;
        if (word(t, at, "from")) {
            if ((p.first = number(t, at, 23)) < 0 || !word(t, at, "long") || (p.length = number(t, at, 24)) < 0) return false;
        }
        s.chimneys.add(p);
        return true;
    }
    public int hold(int spot, int chimney) {
        if (out(spot, 0, 9) || out(chimney, -1, s.chimneys.size() - 1)) return found(BEYOND);
        s.spots[spot] = chimney; return 1;
    }
    public int as(int spot, int kind) {
        if (out(spot, 0, 9) || out(kind, 0, 6)) return found(BEYOND);
        if (s.spots[spot] < 0) return found(MISSING);
        return isA(get(s, s.spots[spot]), kind) ? s.spots[spot] : found(KIND);
    }
    public int sheet(int i, int b, int n) {
        if (out(i, 0, 3) || (b != 0 && b != 8 && b != 16 && b != 32)) return found(BEYOND);
        if (n < 0) return found(SIZE);
        if (n > 40) return found(BEYOND);
        bits[i] = b; sheets[i] = b == 0 ? null : new int[n];
        return b == 0 ? 0 : n;
    }
    public int write(int i, int at, int v) {
        if (out(i, 0, 3)) return found(BEYOND);
        if (sheets[i] == null) return found(MISSING);
        if (out(at, 0, sheets[i].length - 1)) return found(BEYOND);
        sheets[i][at] = v << 32 - bits[i] >> 32 - bits[i]; return 1;
    }
    public int copy(int i, int from, int t, int to, int n) {
        if (out(i, 0, 3) || out(t, 0, 3)) return found(BEYOND);
        if (sheets[i] == null || sheets[t] == null) return found(MISSING);
        if (bits[i] != bits[t]) return found(KIND);
        if (from < 0 || to < 0 || n < 0 || (long) from + n > sheets[i].length || (long) to + n > sheets[t].length) return found(BEYOND);
        int[] as = sheets[i].clone();
        for (int k = 0; k < n; k++) sheets[t][to + k] = as[from + k];
        return n;
    }
    public int load(int i) {
        if (out(i, 0, 3)) return found(BEYOND);
        if (sheets[i] == null) return found(MISSING);
        int n = 0;
        for (int v : sheets[i]) { if (n == 24 || out(v, 0, 4)) break; s.winds[n++] = v; }
        return n;
    }
    public int judge(int i) {
        if (out(i, 0, 3)) return found(BEYOND);
        if (sheets[i] == null) return found(MISSING);
        if (s.hour + sheets[i].length > 9999) return found(STATE);
        State t = s.copy();
        for (int k = 0; k < sheets[i].length; k++) if (t.hours(1) != sheets[i][k]) return 1 + k;
        return 0;
    }
    public int image() { kept = s.copy(); return 1; }
    public int undo() {
        if (kept == null) return found(NONE);
        s = kept.copy(); return s.hour;
    }
    public int tear() { int had = kept == null ? 0 : 1; kept = null; return had; }
    public int count(int what) {
        switch (what) {
            case 0: return s.hour;
            case 1: return s.chimneys.size();
            case 2: return (int) Arrays.stream(s.roofs).filter(r -> r >= 0).count();
            case 3: return sum(true, -1, -1);
            case 4: return sum(false, -1, -1);
            case 5: return tape.length();
            case 6: return s.z;
            case 7: return (int) Arrays.stream(s.spots).filter(c -> c >= 0).count();
            default: return found(BEYOND);
        }
    }
    public int status(int which) {
        if (out(which, -1, 6)) return found(BEYOND);
        return which < 0 ? Arrays.stream(told).sum() : told[which];
    }
}
