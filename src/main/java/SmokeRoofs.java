import java.util.Arrays;

/** Smoke is whose it comes to. The numbered promises are in the project's document. */
public final class SmokeRoofs {
    private static final int LOW = -1000001;
    private static final int BEYOND = 0;
    private static final int FULL = 1;
    private static final int KIND = 2;
    private static final int NONE = 3;
    private static final int STATE = 4;
    private static final int MISSING = 5;
    private static final int SIZE = 6;
    private static final int FINDINGS = 7;

    private static final int SIDE = 6;
    private static final int CELLS = 36;
    private static final int OWNERS = 6;
    private static final int CLOCKS = 24;
    private static final int WINDS = 5;
    private static final int CALM = 0;
    private static final int NOWHERE = -1;
    private static final int MOST_CHIMNEYS = 8;
    private static final int SPOTS = 10;
    private static final int LAST_HOUR = 9999;
    private static final int FARTHEST = 72;

    private static final int KINDS = 7;
    private static final int PLAIN = 0;
    private static final int FORGE = 3;
    private static final int OVEN = 4;
    private static final int KILN = 6;
    private static final int OVEN_ENDS = 12;
    private static final int KIND_LEVELS = 3;

    /* What a chimney is, by the numbers that of() and change() give it. */
    private static final int ITS_KIND = 0;
    private static final int ITS_OWNER = 1;
    private static final int ITS_CELL = 2;
    private static final int ITS_HIGH = 3;
    private static final int ITS_FIRE = 4;
    private static final int ITS_FIRST = 5;
    private static final int ITS_LONG = 6;
    private static final int TRAITS = 7;
    private static final int[] TRAIT_LIMITS = {6, 5, 35, 9, 99, 23, 24};

    private static final int[] KIND_ABOVE = {-1, 0, 0, 0, 1, 2, 3};
    private static final int[] WORTHS = {0, 2, -3, -1, 3, -6, -1};
    private static final int[] SOOTS = {30, 30, 30, 30, 30, 50, 60};
    private static final int[] WIND_STEPS = {0, -6, 1, 6, -1};

    private static final int TAPE_LENGTH = 120;
    private static final int NUMBER_LIMIT = 999;
    private static final int SHEETS = 4;
    private static final int SHEET_LENGTH = 40;

    private final Town town = new Town();
    private final Town kept = new Town();
    private boolean isKept = false;
    private final Reader reader = new Reader();
    private final Sheet[] sheets = new Sheet[SHEETS];
    private final int[] findings = new int[FINDINGS];

    /* AHEAD is played on these, so that the town stays as it is and no call makes anything new. */
    private final Chimney trial = new Chimney();
    private final Tally tally = new Tally();
    private final int[] coinsBefore = new int[OWNERS];
    private final int[] dirtLit = new int[MOST_CHIMNEYS];
    private final int[] dirtOut = new int[MOST_CHIMNEYS];
    private final int[] settledByHour = new int[SHEET_LENGTH];
    private final int[] costs = new int[CELLS];

    public SmokeRoofs() {
        for (int s = 0; s < SHEETS; s++) {
            sheets[s] = new Sheet();
        }
    }

    // ---- the town

    public int roof(int cell, int owner) {
        if (!isCell(cell) || !isIn(owner, -1, OWNERS - 1)) {
            return finding(BEYOND);
        }
        int was = town.roofs[cell];
        town.roofs[cell] = owner;
        return was;
    }

    public int wind(int clock, int v) {
        if (!isIn(clock, 0, CLOCKS - 1) || !isIn(v, 0, WINDS - 1)) {
            return finding(BEYOND);
        }
        int was = town.winds[clock];
        town.winds[clock] = v;
        return was;
    }

    public int chimney(int kind, int owner, int cell) {
        if (!isKind(kind) || !isOwner(owner) || !isCell(cell)) {
            return finding(BEYOND);
        }
        if (town.isFull()) {
            return finding(FULL);
        }
        return town.raise(kind, owner, cell);
    }

    public int of(int chimney, int what) {
        if (!isChimney(chimney) || !isIn(what, 0, TRAITS + 2)) {
            return finding(BEYOND);
        }
        Chimney asked = town.chimneys[chimney];
        if (what < TRAITS) {
            return asked.traits[what];
        }
        if (what == TRAITS) {
            return asked.worth();
        }
        if (what == TRAITS + 1) {
            return asked.sooty();
        }
        int clock = town.hour % CLOCKS;
        return asked.isLitAt(clock) ? asked.burnsAt(clock) : 0;
    }

    public int change(int chimney, int what, int v) {
        if (!isChimney(chimney) || !isIn(what, 0, TRAITS - 1) || !isIn(v, 0, TRAIT_LIMITS[what])) {
            return finding(BEYOND);
        }
        int[] traits = town.chimneys[chimney].traits;
        int was = traits[what];
        traits[what] = v;
        return was;
    }

    public int book(int owner) {
        if (!isOwner(owner)) {
            return finding(BEYOND);
        }
        return town.books[owner];
    }

    public int strike() {
        int sum = 0;
        for (int owner = 0; owner < OWNERS; owner++) {
            sum += Math.max(town.books[owner], 0);
            town.books[owner] = 0;
        }
        return sum;
    }

    // ---- the air

    public int air(int chimney, int cell) {
        if (!isChimneyOrAll(chimney) || !isCellOrAll(cell)) {
            return finding(BEYOND);
        }
        int sum = 0;
        for (int c = Math.max(chimney, 0); c <= lastOf(chimney); c++) {
            sum += partsOver(town.chimneys[c].aloft, cell);
        }
        return sum;
    }

    public int settled(int chimney, int cell) {
        if (!isChimneyOrAll(chimney) || !isCellOrAll(cell)) {
            return finding(BEYOND);
        }
        int sum = 0;
        for (int c = Math.max(chimney, 0); c <= lastOf(chimney); c++) {
            sum += partsOver(town.chimneys[c].soot, cell);
        }
        return sum;
    }

    public int parts(int chimney, int what) {
        if (!isChimney(chimney) || !isIn(what, 0, 2)) {
            return finding(BEYOND);
        }
        Chimney asked = town.chimneys[chimney];
        if (what == 0) {
            return asked.gone;
        }
        return what == 1 ? asked.cameDown : asked.burnt;
    }

    public int thickest() {
        int best = 0;
        int most = 0;
        for (int cell = 0; cell < CELLS; cell++) {
            int parts = town.aloftOver(cell);
            if (parts > most) {
                most = parts;
                best = cell;
            }
        }
        return best;
    }

    public int touched(int chimney) {
        if (!isChimney(chimney)) {
            return finding(BEYOND);
        }
        int[] soot = town.chimneys[chimney].soot;
        int set = 0;
        for (int cell = 0; cell < CELLS; cell++) {
            if (town.roofs[cell] >= 0 && soot[cell] > 0) {
                set |= 1 << town.roofs[cell];
            }
        }
        return set;
    }

    // ---- hours

    public int hours(int n) {
        if (!isIn(n, 1, 48)) {
            return finding(BEYOND);
        }
        if (!hasHours(n)) {
            return finding(STATE);
        }
        tally.begin();
        for (int c = 0; c < town.chimneyCount; c++) {
            town.playHours(town.chimneys[c], 0, n, tally);
        }
        for (int owner = 0; owner < OWNERS; owner++) {
            town.books[owner] += tally.coins[owner];
        }
        town.hour += n;
        return tally.settled;
    }

    public int ahead(int n, int what) {
        if (!isIn(n, 0, FARTHEST) || !isIn(what, 0, 2 + 2 * OWNERS)) {
            return finding(BEYOND);
        }
        if (!hasHours(n)) {
            return finding(STATE);
        }
        int cameDown = 0;
        int gone = 0;
        tally.begin();
        for (int c = 0; c < town.chimneyCount; c++) {
            trial.take(town.chimneys[c]);
            town.playHours(trial, 0, n, tally);
            cameDown += trial.cameDown;
            gone += trial.gone;
        }
        if (what == 0) {
            return tally.settled;
        }
        if (what <= 2) {
            return what == 1 ? cameDown : gone;
        }
        int owner = (what - 3) % OWNERS;
        return what < 3 + OWNERS ? town.books[owner] + tally.coins[owner] : tally.dirt[owner];
    }

    public int clear(int chimney) {
        if (!isChimney(chimney)) {
            return finding(BEYOND);
        }
        if (!hasHours(FARTHEST)) {
            return finding(STATE);
        }
        tally.begin();
        trial.take(town.chimneys[chimney]);
        for (int behind = 0; behind <= FARTHEST; behind++) {
            if (partsOver(trial.aloft, -1) == 0) {
                return behind;
            }
            town.playHours(trial, behind, 1, tally);
        }
        return finding(NONE);
    }

    public int reaches(int chimney, int owner) {
        if (!isChimney(chimney) || !isOwner(owner)) {
            return finding(BEYOND);
        }
        if (!hasHours(FARTHEST)) {
            return finding(STATE);
        }
        tally.begin();
        trial.take(town.chimneys[chimney]);
        for (int behind = 0; behind < FARTHEST; behind++) {
            town.playHours(trial, behind, 1, tally);
            if (tally.onRoofs[owner] > 0) {
                return behind + 1;
            }
        }
        return finding(NONE);
    }

    // ---- choosing

    public int place(int chimney, int n) {
        return richest(chimney, ITS_CELL, n);
    }

    public int highFor(int chimney, int n) {
        return richest(chimney, ITS_HIGH, n);
    }

    public int gains(int chimney, int n) {
        if (!isChimney(chimney) || !isIn(n, 1, 24)) {
            return finding(BEYOND);
        }
        int high = town.chimneys[chimney].traits[ITS_HIGH];
        if (high >= TRAIT_LIMITS[ITS_HIGH] || !hasHours(n)) {
            return finding(STATE);
        }
        playWith(chimney, ITS_HIGH, high, n);
        System.arraycopy(tally.coins, 0, coinsBefore, 0, OWNERS);
        playWith(chimney, ITS_HIGH, high + 1, n);
        int set = 0;
        for (int owner = 0; owner < OWNERS; owner++) {
            if (tally.coins[owner] > coinsBefore[owner]) {
                set |= 1 << owner;
            }
        }
        return set;
    }

    public int when(int chimney, int owner, int n) {
        if (!isChimney(chimney) || !isOwner(owner) || !isIn(n, 1, 24)) {
            return finding(BEYOND);
        }
        if (!hasHours(n)) {
            return finding(STATE);
        }
        int best = 0;
        int least = 0;
        for (int clock = 0; clock < CLOCKS; clock++) {
            playWith(chimney, ITS_FIRST, clock, n);
            if (clock == 0 || tally.dirt[owner] < least) {
                least = tally.dirt[owner];
                best = clock;
            }
        }
        return best;
    }

    public int build(int owner, int n) {
        if (!isOwner(owner) || !isIn(n, 1, 24)) {
            return finding(BEYOND);
        }
        if (!hasHours(n)) {
            return finding(STATE);
        }
        playCosts(owner, n);
        int best = NOWHERE;
        for (int cell = 0; cell < CELLS; cell++) {
            boolean isFree = town.roofs[cell] < 0;
            if (isFree && (best == NOWHERE || costs[cell] < costs[best])) {
                best = cell;
            }
        }
        return best == NOWHERE ? finding(NONE) : best;
    }

    public int washing(int owner, int n) {
        if (!isOwner(owner) || !isIn(n, 1, 12)) {
            return finding(BEYOND);
        }
        if (!hasHours(n)) {
            return finding(STATE);
        }
        playDirt(owner, n);
        int best = -1;
        int mostFire = -1;
        int sets = 1 << town.chimneyCount;
        for (int set = 0; set < sets; set++) {
            int fire = fireOf(set);
            if (fire > mostFire && dirtWith(set) == 0) {
                mostFire = fire;
                best = set;
            }
        }
        return best < 0 ? finding(NONE) : best;
    }

    public int worst(int owner, int n) {
        if (!isOwner(owner) || !isIn(n, 1, 24)) {
            return finding(BEYOND);
        }
        if (!hasHours(n)) {
            return finding(STATE);
        }
        if (town.chimneyCount == 0) {
            return finding(NONE);
        }
        playDirt(owner, n);
        int all = (1 << town.chimneyCount) - 1;
        int best = 0;
        int least = 0;
        for (int c = 0; c < town.chimneyCount; c++) {
            int dirt = dirtWith(all & ~(1 << c));
            if (c == 0 || dirt < least) {
                least = dirt;
                best = c;
            }
        }
        return best;
    }

    // ---- who did it

    public int over(int cell) {
        if (!isCell(cell)) {
            return finding(BEYOND);
        }
        int set = 0;
        for (int c = 0; c < town.chimneyCount; c++) {
            if (town.chimneys[c].aloft[cell] > 0) {
                set |= 1 << c;
            }
        }
        return set;
    }

    public int canHave(int kind, int clock, int cell, int h) {
        if (!isKind(kind) || !isIn(clock, 0, CLOCKS - 1) || !isCell(cell) || !isIn(h, 1, 12)) {
            return finding(BEYOND);
        }
        int set = 0;
        for (int c = 0; c < town.chimneyCount; c++) {
            if (isUnder(town.chimneys[c].traits[ITS_KIND], kind)) {
                playAlone(c, clock, h);
                set |= trial.aloft[cell] > 0 ? 1 << c : 0;
            }
        }
        return set;
    }

    public int clocks(int chimney, int cell, int h) {
        if (!isChimney(chimney) || !isCell(cell) || !isIn(h, 1, 12)) {
            return finding(BEYOND);
        }
        int from = town.chimneys[chimney].traits[ITS_CELL];
        int set = 0;
        for (int clock = 0; clock < CLOCKS; clock++) {
            if (town.cellBehind(from, clock, h) == cell) {
                set |= 1 << clock;
            }
        }
        return set;
    }

    public int weather(int n) {
        if (!isIn(n, 1, 24)) {
            return finding(BEYOND);
        }
        for (int i = 0; i < n; i++) {
            int clock = town.draw() % CLOCKS;
            town.winds[clock] = town.draw() % WINDS;
        }
        int calm = 0;
        for (int clock = 0; clock < CLOCKS; clock++) {
            calm += town.winds[clock] == CALM ? 1 : 0;
        }
        return calm;
    }

    public int seed(int v) {
        int was = town.z;
        town.z = v;
        return was;
    }

    // ---- texts

    public int feed(int bytes, int n) {
        if (!isIn(n, 1, 4)) {
            return finding(BEYOND);
        }
        Tape tape = reader.tape;
        if (tape.length + n > TAPE_LENGTH) {
            return finding(FULL);
        }
        for (int i = n - 1; i >= 0; i--) {
            tape.bytes[tape.length] = (bytes >>> (8 * i)) & 255;
            tape.length++;
        }
        return tape.length;
    }

    public int wipe() {
        int had = reader.tape.length;
        reader.tape.length = 0;
        return had;
    }

    public int text() {
        int items = reader.read(town, false);
        int answer = items;
        if (reader.tape.hasFault()) {
            answer = -1 - reader.tape.fault;
        } else {
            // Read again to be done: a text with a fault must not change anything on the way to it.
            reader.read(town, true);
        }
        reader.tape.length = 0;
        return answer;
    }

    // ---- spots, sheets

    public int hold(int spot, int chimney) {
        if (!isSpot(spot) || !isIn(chimney, -1, town.chimneyCount - 1)) {
            return finding(BEYOND);
        }
        town.spots[spot] = chimney;
        return 1;
    }

    public int as(int spot, int kind) {
        if (!isSpot(spot) || !isKind(kind)) {
            return finding(BEYOND);
        }
        int held = town.spots[spot];
        if (!isChimney(held)) {
            return finding(MISSING);
        }
        if (!isUnder(town.chimneys[held].traits[ITS_KIND], kind)) {
            return finding(KIND);
        }
        return held;
    }

    public int sheet(int s, int bits, int n) {
        if (!isSheet(s) || (bits != 0 && bits != 8 && bits != 16 && bits != 32)) {
            return finding(BEYOND);
        }
        if (n < 0) {
            return finding(SIZE);
        }
        if (n > SHEET_LENGTH) {
            return finding(BEYOND);
        }
        sheets[s].begin(bits, n);
        return sheets[s].length;
    }

    public int write(int s, int i, int v) {
        if (!isSheet(s)) {
            return finding(BEYOND);
        }
        if (sheets[s].isMissing()) {
            return finding(MISSING);
        }
        if (!isIn(i, 0, sheets[s].length - 1)) {
            return finding(BEYOND);
        }
        sheets[s].put(i, v);
        return 1;
    }

    public int copy(int s, int from, int t, int to, int n) {
        if (!isSheet(s) || !isSheet(t)) {
            return finding(BEYOND);
        }
        if (sheets[s].isMissing() || sheets[t].isMissing()) {
            return finding(MISSING);
        }
        if (sheets[s].bits != sheets[t].bits) {
            return finding(KIND);
        }
        if (!sheets[s].hasPart(from, n) || !sheets[t].hasPart(to, n)) {
            return finding(BEYOND);
        }
        System.arraycopy(sheets[s].numbers, from, sheets[t].numbers, to, n);
        return n;
    }

    public int load(int s) {
        if (!isSheet(s)) {
            return finding(BEYOND);
        }
        if (sheets[s].isMissing()) {
            return finding(MISSING);
        }
        int end = Math.min(sheets[s].length, CLOCKS);
        for (int i = 0; i < end; i++) {
            int v = sheets[s].numbers[i];
            if (!isIn(v, 0, WINDS - 1)) {
                return i;
            }
            town.winds[i] = v;
        }
        return end;
    }

    public int judge(int s) {
        if (!isSheet(s)) {
            return finding(BEYOND);
        }
        if (sheets[s].isMissing()) {
            return finding(MISSING);
        }
        int n = sheets[s].length;
        if (!hasHours(n)) {
            return finding(STATE);
        }
        playByHour(n);
        for (int i = 0; i < n; i++) {
            if (sheets[s].numbers[i] != settledByHour[i]) {
                return 1 + i;
            }
        }
        return 0;
    }

    // ---- images

    public int image() {
        kept.take(town);
        isKept = true;
        return 1;
    }

    public int undo() {
        if (!isKept) {
            return finding(NONE);
        }
        town.take(kept);
        return town.hour;
    }

    public int tear() {
        int answer = isKept ? 1 : 0;
        isKept = false;
        return answer;
    }

    public int count(int what) {
        switch (what) {
            case 0:
                return town.hour;
            case 1:
                return town.chimneyCount;
            case 2:
                return notBelowZero(town.roofs);
            case 3:
                return air(-1, -1);
            case 4:
                return settled(-1, -1);
            case 5:
                return reader.tape.length;
            case 6:
                return town.z;
            case 7:
                return notBelowZero(town.spots);
            default:
                return finding(BEYOND);
        }
    }

    public int status(int which) {
        if (!isIn(which, -1, FINDINGS - 1)) {
            return finding(BEYOND);
        }
        if (which >= 0) {
            return findings[which];
        }
        int sum = 0;
        for (int i = 0; i < FINDINGS; i++) {
            sum += findings[i];
        }
        return sum;
    }

    // ---- what the calls share

    private int finding(int which) {
        findings[which]++;
        return LOW - which;
    }

    private static boolean isIn(int v, int least, int most) {
        return v >= least && v <= most;
    }

    private static boolean isCell(int cell) {
        return isIn(cell, 0, CELLS - 1);
    }

    private static boolean isCellOrAll(int cell) {
        return isIn(cell, -1, CELLS - 1);
    }

    private static boolean isOwner(int owner) {
        return isIn(owner, 0, OWNERS - 1);
    }

    private static boolean isKind(int kind) {
        return isIn(kind, 0, KINDS - 1);
    }

    private static boolean isSpot(int spot) {
        return isIn(spot, 0, SPOTS - 1);
    }

    private static boolean isSheet(int s) {
        return isIn(s, 0, SHEETS - 1);
    }

    private boolean isChimney(int chimney) {
        return isIn(chimney, 0, town.chimneyCount - 1);
    }

    private boolean isChimneyOrAll(int chimney) {
        return isIn(chimney, -1, town.chimneyCount - 1);
    }

    private int lastOf(int chimneyOrAll) {
        return chimneyOrAll < 0 ? town.chimneyCount - 1 : chimneyOrAll;
    }

    private boolean hasHours(int n) {
        return town.hour + n <= LAST_HOUR;
    }

    private static boolean isUnder(int kind, int above) {
        int at = kind;
        for (int level = 0; level < KIND_LEVELS && isKind(at); level++) {
            if (at == above) {
                return true;
            }
            at = KIND_ABOVE[at];
        }
        return false;
    }

    private static int partsOver(int[] row, int cell) {
        if (cell >= 0) {
            return row[cell];
        }
        int sum = 0;
        for (int c = 0; c < CELLS; c++) {
            sum += row[c];
        }
        return sum;
    }

    private static int notBelowZero(int[] row) {
        int n = 0;
        for (int i = 0; i < row.length; i++) {
            n += row[i] >= 0 ? 1 : 0;
        }
        return n;
    }

    /*
     * No chimney's smoke has to do with another's, and coins only add up: what a change of one
     * chimney does to books and dirt is told by playing this chimney alone.
     */
    private void playWith(int chimney, int trait, int v, int n) {
        tally.begin();
        trial.take(town.chimneys[chimney]);
        trial.traits[trait] = v;
        town.playHours(trial, 0, n, tally);
    }

    private int richest(int chimney, int trait, int n) {
        if (!isChimney(chimney) || !isIn(n, 1, 24)) {
            return finding(BEYOND);
        }
        if (!hasHours(n)) {
            return finding(STATE);
        }
        int owner = town.chimneys[chimney].traits[ITS_OWNER];
        int best = 0;
        int most = 0;
        for (int v = 0; v <= TRAIT_LIMITS[trait]; v++) {
            playWith(chimney, trait, v, n);
            if (v == 0 || tally.coins[owner] > most) {
                most = tally.coins[owner];
                best = v;
            }
        }
        return best;
    }

    /* What a new roof of an owner on each cell would pay for what settles there ahead. */
    private void playCosts(int owner, int n) {
        Arrays.fill(costs, 0);
        tally.begin();
        for (int c = 0; c < town.chimneyCount; c++) {
            Chimney now = town.chimneys[c];
            if (now.traits[ITS_OWNER] != owner) {
                trial.take(now);
                town.playHours(trial, 0, n, tally);
                addCosts(now);
            }
        }
    }

    private void addCosts(Chimney now) {
        int worth = now.worth();
        for (int cell = 0; cell < CELLS; cell++) {
            costs[cell] += (trial.soot[cell] - now.soot[cell]) * worth;
        }
    }

    private void playDirt(int owner, int n) {
        for (int c = 0; c < town.chimneyCount; c++) {
            playWith(c, ITS_LONG, town.chimneys[c].traits[ITS_LONG], n);
            dirtLit[c] = tally.dirt[owner];
            playWith(c, ITS_LONG, 0, n);
            dirtOut[c] = tally.dirt[owner];
        }
    }

    private int dirtWith(int set) {
        int sum = 0;
        for (int c = 0; c < town.chimneyCount; c++) {
            sum += (set >> c & 1) == 1 ? dirtLit[c] : dirtOut[c];
        }
        return sum;
    }

    private int fireOf(int set) {
        int sum = 0;
        for (int c = 0; c < town.chimneyCount; c++) {
            sum += (set >> c & 1) * town.chimneys[c].traits[ITS_FIRE];
        }
        return sum;
    }

    private void playAlone(int chimney, int clock, int h) {
        tally.begin();
        trial.take(town.chimneys[chimney]);
        Arrays.fill(trial.aloft, 0);
        for (int i = 0; i < h; i++) {
            town.playClock(trial, (clock + i) % CLOCKS, true, tally);
        }
    }

    private void playByHour(int n) {
        Arrays.fill(settledByHour, 0);
        tally.begin();
        for (int c = 0; c < town.chimneyCount; c++) {
            trial.take(town.chimneys[c]);
            for (int i = 0; i < n; i++) {
                int before = tally.settled;
                town.playHours(trial, i, 1, tally);
                settledByHour[i] += tally.settled - before;
            }
        }
    }

    /** A chimney, and all that has come out of it. */
    private static final class Chimney {
        final int[] traits = new int[TRAITS];
        final int[] aloft = new int[CELLS];
        final int[] soot = new int[CELLS];
        int gone = 0;
        int cameDown = 0;
        int burnt = 0;

        void begin(int kind, int owner, int cell) {
            traits[ITS_KIND] = kind;
            traits[ITS_OWNER] = owner;
            traits[ITS_CELL] = cell;
            traits[ITS_HIGH] = 1;
            traits[ITS_FIRE] = 20;
            traits[ITS_FIRST] = 0;
            traits[ITS_LONG] = CLOCKS;
            Arrays.fill(aloft, 0);
            Arrays.fill(soot, 0);
            gone = 0;
            cameDown = 0;
            burnt = 0;
        }

        void take(Chimney other) {
            System.arraycopy(other.traits, 0, traits, 0, TRAITS);
            System.arraycopy(other.aloft, 0, aloft, 0, CELLS);
            System.arraycopy(other.soot, 0, soot, 0, CELLS);
            gone = other.gone;
            cameDown = other.cameDown;
            burnt = other.burnt;
        }

        int worth() {
            return WORTHS[traits[ITS_KIND]];
        }

        int sooty() {
            return Math.max(SOOTS[traits[ITS_KIND]] - 3 * traits[ITS_HIGH], 0);
        }

        boolean isLitAt(int clock) {
            return Math.floorMod(clock - traits[ITS_FIRST], CLOCKS) < traits[ITS_LONG];
        }

        int burnsAt(int clock) {
            int fire = traits[ITS_FIRE];
            switch (traits[ITS_KIND]) {
                case FORGE:
                    return 2 * fire;
                case KILN:
                    return 2 * fire + 5;
                case OVEN:
                    return clock < OVEN_ENDS ? fire : 0;
                default:
                    return fire;
            }
        }

        void burnAt(int clock) {
            int parts = burnsAt(clock);
            aloft[traits[ITS_CELL]] += parts;
            burnt += parts;
        }

        void comeDown() {
            for (int cell = 0; cell < CELLS; cell++) {
                cameDown += aloft[cell];
                aloft[cell] = 0;
            }
        }

        void drift(int wind) {
            for (int i = 0; i < CELLS; i++) {
                // From the far side on: where these parts go has been left by its own already.
                int cell = WIND_STEPS[wind] < 0 ? i : CELLS - 1 - i;
                if (aloft[cell] > 0) {
                    moveTo(cellBeside(cell, wind), cell);
                }
            }
        }

        void moveTo(int to, int cell) {
            if (to == NOWHERE) {
                gone += aloft[cell];
            } else {
                aloft[to] = aloft[cell];
            }
            aloft[cell] = 0;
        }

        void settle(int[] roofs, Tally tally) {
            int sooty = sooty();
            int worth = worth();
            for (int cell = 0; cell < CELLS; cell++) {
                int parts = aloft[cell] * sooty / 100;
                if (parts > 0) {
                    aloft[cell] -= parts;
                    soot[cell] += parts;
                    tally.add(parts, worth, traits[ITS_OWNER], roofs[cell]);
                }
            }
        }

        /** NOWHERE: out of the town, or, in calm, no more in the air. */
        static int cellBeside(int cell, int wind) {
            boolean isOut;
            switch (wind) {
                case 1:
                    isOut = cell < SIDE;
                    break;
                case 2:
                    isOut = cell % SIDE == SIDE - 1;
                    break;
                case 3:
                    isOut = cell >= CELLS - SIDE;
                    break;
                case 4:
                    isOut = cell % SIDE == 0;
                    break;
                default:
                    isOut = true;
                    break;
            }
            return isOut ? NOWHERE : cell + WIND_STEPS[wind];
        }
    }

    /** All that an image keeps. */
    private static final class Town {
        int hour = 0;
        int z = 1;
        int chimneyCount = 0;
        final int[] roofs = new int[CELLS];
        final int[] winds = new int[CLOCKS];
        final int[] books = new int[OWNERS];
        final int[] spots = new int[SPOTS];
        final Chimney[] chimneys = new Chimney[MOST_CHIMNEYS];

        Town() {
            Arrays.fill(roofs, -1);
            Arrays.fill(spots, -1);
            for (int c = 0; c < MOST_CHIMNEYS; c++) {
                chimneys[c] = new Chimney();
            }
        }

        void take(Town other) {
            hour = other.hour;
            z = other.z;
            chimneyCount = other.chimneyCount;
            System.arraycopy(other.roofs, 0, roofs, 0, CELLS);
            System.arraycopy(other.winds, 0, winds, 0, CLOCKS);
            System.arraycopy(other.books, 0, books, 0, OWNERS);
            System.arraycopy(other.spots, 0, spots, 0, SPOTS);
            for (int c = 0; c < chimneyCount; c++) {
                chimneys[c].take(other.chimneys[c]);
            }
        }

        boolean isFull() {
            return chimneyCount >= MOST_CHIMNEYS;
        }

        /** To be asked only of a town that is not full. */
        int raise(int kind, int owner, int cell) {
            chimneys[chimneyCount].begin(kind, owner, cell);
            chimneyCount++;
            return chimneyCount - 1;
        }

        int aloftOver(int cell) {
            int sum = 0;
            for (int c = 0; c < chimneyCount; c++) {
                sum += chimneys[c].aloft[cell];
            }
            return sum;
        }

        int draw() {
            z = z * 1103515245 + 12345;
            return z >>> 8;
        }

        /** Plays n hours of a chimney's smoke, the first of them being so many behind this one. */
        void playHours(Chimney played, int behind, int n, Tally tally) {
            for (int i = 0; i < n; i++) {
                int clock = (hour + behind + i) % CLOCKS;
                playClock(played, clock, played.isLitAt(clock), tally);
            }
        }

        void playClock(Chimney played, int clock, boolean isBurning, Tally tally) {
            if (isBurning) {
                played.burnAt(clock);
            }
            if (winds[clock] == CALM) {
                played.comeDown();
            } else {
                played.drift(winds[clock]);
                played.settle(roofs, tally);
            }
        }

        int cellBehind(int from, int clock, int h) {
            int at = from;
            for (int i = 0; i < h && at != NOWHERE; i++) {
                at = Chimney.cellBeside(at, winds[(clock + i) % CLOCKS]);
            }
            return at;
        }
    }

    /** What came of the hours played since it began. */
    private static final class Tally {
        int settled = 0;
        final int[] coins = new int[OWNERS];
        final int[] onRoofs = new int[OWNERS];
        final int[] dirt = new int[OWNERS];

        void begin() {
            settled = 0;
            Arrays.fill(coins, 0);
            Arrays.fill(onRoofs, 0);
            Arrays.fill(dirt, 0);
        }

        void add(int parts, int worth, int owner, int roofOwner) {
            settled += parts;
            if (roofOwner >= 0) {
                onRoofs[roofOwner] += parts;
                dirt[roofOwner] += worth < 0 ? parts : 0;
                // On a roof of the chimney's own owner these two cancel out, as they should.
                coins[roofOwner] -= parts * worth;
                coins[owner] += parts * worth;
            }
        }
    }

    /** A sheet of numbers; of 0 bits it is missing. */
    private static final class Sheet {
        int bits = 0;
        int length = 0;
        final int[] numbers = new int[SHEET_LENGTH];

        void begin(int newBits, int newLength) {
            bits = newBits;
            length = newBits == 0 ? 0 : newLength;
            Arrays.fill(numbers, 0);
        }

        boolean isMissing() {
            return bits == 0;
        }

        void put(int i, int v) {
            if (bits == 8) {
                numbers[i] = (byte) v;
            } else if (bits == 16) {
                numbers[i] = (short) v;
            } else {
                numbers[i] = v;
            }
        }

        boolean hasPart(int from, int n) {
            return from >= 0 && n >= 0 && from <= length && n <= length - from;
        }
    }

    /** The tape, and the token at hand while it is read. */
    private static final class Tape {
        static final int END = 0;
        static final int WORD = 1;
        static final int NUMBER = 2;
        static final int SIGN = 3;
        static final int NO_TOKEN = 4;

        final int[] bytes = new int[TAPE_LENGTH];
        int length = 0;
        int fault = -1;
        int sort = END;
        int start = 0;
        int place = 0;

        void rewind() {
            fault = -1;
            place = 0;
            next();
        }

        void next() {
            while (place < length && bytes[place] == ' ') {
                place++;
            }
            start = place;
            sort = END;
            if (place < length) {
                sort = sortOf(bytes[place]);
                place++;
            }
            boolean goesOn = sort == WORD || sort == NUMBER;
            while (goesOn && place < length && sortOf(bytes[place]) == sort) {
                place++;
            }
        }

        static int sortOf(int b) {
            if (b >= 'a' && b <= 'z') {
                return WORD;
            }
            if (b >= '0' && b <= '9') {
                return NUMBER;
            }
            return b == ';' ? SIGN : NO_TOKEN;
        }

        int numberAtHand() {
            int number = 0;
            for (int i = start; i < place; i++) {
                // Held just above the limit, so that no row of digits can wrap around.
                number = Math.min(number * 10 + bytes[i] - '0', NUMBER_LIMIT + 1);
            }
            return number;
        }

        boolean hasFault() {
            return fault >= 0;
        }

        void fail() {
            if (fault < 0) {
                fault = start;
            }
        }

        boolean isWord(String word) {
            if (sort != WORD || place - start != word.length()) {
                return false;
            }
            for (int i = 0; i < word.length(); i++) {
                if (bytes[start + i] != word.charAt(i)) {
                    return false;
                }
            }
            return true;
        }

        /** Whether the word stood there; it is passed then. */
        boolean passWord(String word) {
            if (hasFault() || !isWord(word)) {
                return false;
            }
            next();
            return true;
        }

        boolean passSign() {
            if (hasFault() || sort != SIGN) {
                return false;
            }
            next();
            return true;
        }

        void needWord(String word) {
            if (!passWord(word)) {
                fail();
            }
        }

        /** The number that must stand here; 0 with a fault, which is good for every index. */
        int needNumber(int most) {
            int number = sort == NUMBER ? numberAtHand() : -1;
            if (hasFault() || number < 0 || number > most) {
                fail();
                return 0;
            }
            next();
            return number;
        }
    }

    /** Reads a text item by item; what an item tells is done only where the text is sure. */
    private static final class Reader {
        final Tape tape = new Tape();
        boolean isSure = false;
        int chimneysTold = 0;

        /** How many items there are; tape.fault tells if that holds. */
        int read(Town town, boolean sure) {
            isSure = sure;
            chimneysTold = town.chimneyCount;
            tape.rewind();
            int items = 0;
            do {
                readItem(town);
                items++;
            } while (items <= TAPE_LENGTH && tape.passSign());
            if (tape.sort != Tape.END) {
                tape.fail();
            }
            return items;
        }

        void readItem(Town town) {
            int kind = kindAtHand();
            if (tape.passWord("roof")) {
                readRoof(town);
            } else if (tape.passWord("wind")) {
                readWind(town);
            } else if (kind >= 0 && chimneysTold < MOST_CHIMNEYS) {
                tape.next();
                readChimney(town, kind);
            } else {
                tape.fail();
            }
        }

        void readRoof(Town town) {
            int cell = tape.needNumber(CELLS - 1);
            tape.needWord("of");
            int owner = tape.needNumber(OWNERS - 1);
            if (isSure) {
                town.roofs[cell] = owner;
            }
        }

        void readWind(Town town) {
            int clock = tape.needNumber(CLOCKS - 1);
            do {
                int v = tape.needNumber(WINDS - 1);
                if (isSure) {
                    town.winds[clock] = v;
                }
                clock++;
            } while (clock < CLOCKS && !tape.hasFault() && tape.sort == Tape.NUMBER);
        }

        void readChimney(Town town, int kind) {
            tape.needWord("of");
            int owner = tape.needNumber(OWNERS - 1);
            tape.needWord("at");
            int cell = tape.needNumber(CELLS - 1);
            int high = tape.passWord("high") ? tape.needNumber(TRAIT_LIMITS[ITS_HIGH]) : -1;
            int fire = tape.passWord("fire") ? tape.needNumber(TRAIT_LIMITS[ITS_FIRE]) : -1;
            int first = -1;
            int hours = -1;
            if (tape.passWord("from")) {
                first = tape.needNumber(TRAIT_LIMITS[ITS_FIRST]);
                tape.needWord("long");
                hours = tape.needNumber(TRAIT_LIMITS[ITS_LONG]);
            }
            chimneysTold++;
            if (isSure && !town.isFull()) {
                int[] traits = town.chimneys[town.raise(kind, owner, cell)].traits;
                traits[ITS_HIGH] = high < 0 ? traits[ITS_HIGH] : high;
                traits[ITS_FIRE] = fire < 0 ? traits[ITS_FIRE] : fire;
                traits[ITS_FIRST] = first < 0 ? traits[ITS_FIRST] : first;
                traits[ITS_LONG] = hours < 0 ? traits[ITS_LONG] : hours;
            }
        }

        int kindAtHand() {
            for (int kind = PLAIN; kind < KINDS; kind++) {
                if (tape.isWord(wordOf(kind))) {
                    return kind;
                }
            }
            return -1;
        }

        static String wordOf(int kind) {
            switch (kind) {
                case 1:
                    return "baker";
                case 2:
                    return "tanner";
                case FORGE:
                    return "forge";
                case OVEN:
                    return "oven";
                case 5:
                    return "tar";
                case KILN:
                    return "kiln";
                default:
                    return "chimney";
            }
        }
    }
}
