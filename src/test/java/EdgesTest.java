/** What the last number that is allowed does: hours to the very last, the cut, nothing yet, all taken, wraps. */
public final class EdgesTest {
    private static final int B = Check.BEYOND;
    private static final int MAX = Integer.MAX_VALUE;
    private static final int MIN = Integer.MIN_VALUE;

    private EdgesTest() {
    }

    public static void main(String[] args) {
        nothingYet();
        hoursToTheLast();
        choicesToTheLastHour();
        whenToTheLastHour();
        smellsToTheLastHour();
        theCut();
        theCoins();
        whoPays();
        gainsOfSeveral();
        thickestOfTwo();
        theLeastOfSeveral();
        theBurning();
        litRoundTheClock();
        theClockOfTheHour();
        overMidnight();
        offTheEdges();
        draws();
        anyZ();
        bytesOfNumbers();
        bitsOfNumbers();
        theSignOf8Bits();
        theSignOf16Bits();
        copiesOnThemselves();
        loadsToTheEnd();
        judgesToTheEnd();
        allTaken();
        roomAgain();
        farBelowZero();
        keptAndNotKept();
        status();
        Check.end();
    }

    private static void due(String what, long got, long want) {
        Check.due(what, got, want);
    }

    private static void nothingYet() {
        SmokeRoofs x = new SmokeRoofs();
        due("8: no books", x.strike(), 0);
        due("9: no air", x.air(-1, -1), 0);
        due("9: no air over 35", x.air(-1, 35), 0);
        due("10: nothing settled", x.settled(-1, -1), 0);
        due("10: nothing settled on 0", x.settled(-1, 0), 0);
        due("12: no cell is thicker than 0", x.thickest(), 0);
        for (int what = 0; what < 15; what++) {
            due("15: nothing ahead, what " + what, x.ahead(72, what), 0);
        }
        due("22: the first cell", x.build(5, 24), 0);
        due("23: the set of none", x.washing(5, 12), 0);
        due("24: none", x.worst(5, 24), Check.NONE);
        due("25: none over 35", x.over(35), 0);
        due("26: none can have", x.canHave(0, 23, 35, 12), 0);
        due("14: nothing settles", x.hours(48), 0);
        due("31: the tape is empty", x.wipe(), 0);
        due("32: an empty tape is no text", x.text(), -1);
        for (int s = 0; s < 4; s++) {
            due("39: sheet " + s + " is missing", x.judge(s), Check.MISSING);
            due("37: sheet " + s + " is missing", x.copy(s, 0, s, 0, 0), Check.MISSING);
        }
        due("42: nothing is kept", x.tear(), 0);
        due("41: nothing is kept", x.undo(), Check.NONE);
        due("Terms: z is 1", x.seed(1), 1);
        due("40: a new object can be kept", x.image(), 1);
        due("41: and come again", x.undo(), 48);
    }

    private static void hoursToTheLast() {
        int[][] hours = {{1, 0}, {23, 0}, {24, 5}, {25, 5}, {47, 5}, {48, 10}};
        for (int[] h : hours) {
            due("14: in " + h[0] + " hours", Towns.onceADay(23).hours(h[0]), h[1]);
        }
        int[][] ahead = {{0, 0}, {23, 0}, {24, 5}, {47, 5}, {48, 10}, {71, 10}, {72, 15}};
        for (int[] a : ahead) {
            SmokeRoofs x = Towns.onceADay(23);
            due("15: settles in " + a[0], x.ahead(a[0], 0), a[1]);
            due("15: book 0 behind " + a[0], x.ahead(a[0], 3), -3 * a[1]);
            due("15: book 1 behind " + a[0], x.ahead(a[0], 4), 3 * a[1]);
            due("15: dirt of 1 in " + a[0], x.ahead(a[0], 10), a[1]);
            due("15: out behind " + a[0], x.ahead(a[0], 2), 0);
            int inTheAir = a[0] > 0 && a[0] % 24 == 0 ? 15 : 0;
            due("15: town's behind " + a[0], x.ahead(a[0], 1), 20 * a[0] - a[1] - inTheAir);
        }
        for (int clock = 0; clock < 24; clock++) {
            due("17: at clock " + clock, Towns.onceADay(clock).reaches(0, 1), clock + 1);
            SmokeRoofs x = Towns.onceADay(clock);
            x.hours(clock + 1);
            due("16: in the air behind clock " + clock, x.air(0, -1), 15);
            due("16: the next calm clears", x.clear(0), 1);
        }
    }

    /** A choice sees just n hours: what comes at a clock counts if n is above it. */
    private static void choicesToTheLastHour() {
        for (int clock = 0; clock < 24; clock++) {
            for (int n = 1; n <= 24; n++) {
                boolean isSeen = n > clock;
                SmokeRoofs x = Towns.onceADay(clock);
                String when = " at " + clock + " in " + n + " hours";
                due("18: off the roof" + when, x.place(0, n), isSeen ? 1 : 0);
                due("19: as high as can be" + when, x.highFor(0, n), isSeen ? 9 : 0);
                due("20: pays less" + when, x.gains(0, n), isSeen ? 1 : 0);
                if (n <= 12) {
                    due("23: out with it" + when, x.washing(1, n), isSeen ? 0 : 1);
                }
                x.roof(1, -1);
                due("22: where it is paid" + when, x.build(1, n), isSeen ? 1 : 0);
                due("24: the second" + when, second(clock).worst(1, n), isSeen ? 1 : 0);
            }
        }
    }

    private static SmokeRoofs second(int clock) {
        SmokeRoofs x = Towns.onceADay(clock);
        x.chimney(2, 0, 0);
        x.change(0, 0, 1);
        return x;
    }

    private static void whenToTheLastHour() {
        for (int hour = 0; hour < 24; hour++) {
            for (int n = 1; n <= 24; n++) {
                SmokeRoofs x = Towns.onceADay(0);
                x.change(0, 6, 0);
                x.hours(hour == 0 ? 24 : hour);
                x.change(0, 6, 1);
                boolean isSeen = n > (24 - hour) % 24;
                due("21: from hour " + hour + " in " + n, x.when(0, 1, n), isSeen ? 1 : 0);
            }
        }
        // Lit for 23 hours, it is out only at the clock ahead of its first.
        SmokeRoofs x = Towns.onceADay(22);
        x.change(0, 6, 23);
        due("21: the last first clock", x.when(0, 1, 24), 23);
    }

    private static void smellsToTheLastHour() {
        for (int clock = 0; clock < 24; clock++) {
            for (int from = 0; from < 24; from++) {
                int behind = (clock - from + 24) % 24 + 1;
                for (int h = 1; h <= 12; h++) {
                    SmokeRoofs x = Towns.onceADay(clock);
                    due("26: from " + from + " for " + h, x.canHave(0, from, 1, h), behind == h ? 1 : 0);
                }
            }
            SmokeRoofs x = Towns.onceADay(clock);
            due("27: in one hour", x.clocks(0, 1, 1), 1 << clock);
            due("27: in two", x.clocks(0, 1, 2), 0);
        }
        // Five to the right, one down, five to the left, one up: a part is back behind 12 hours.
        SmokeRoofs x = new SmokeRoofs();
        for (int i = 0; i < 12; i++) {
            x.wind((18 + i) % 24, i < 5 ? 2 : i == 5 ? 3 : i < 11 ? 4 : 1);
        }
        x.chimney(0, 0, 12);
        due("27: 12 hours over midnight", x.clocks(0, 12, 12), 1 << 18);
        due("27: 11 hours over midnight", x.clocks(0, 18, 11), 1 << 18);
        due("27: 5 hours", x.clocks(0, 17, 5), 1 << 18);
        due("27: 1 hour", x.clocks(0, 13, 1), 0x1F << 18);
    }

    /** Hundredths are cut, for every HIGH and FIRE; and no more of FIRE or HIGH than is allowed is asked. */
    private static void theCut() {
        int[] kinds = {0, 3, 5, 6};
        int[] soot = {30, 30, 50, 60};
        for (int k = 0; k < kinds.length; k++) {
            for (int high = 0; high <= 9; high++) {
                for (int fire = 0; fire <= 99; fire++) {
                    int burns = kinds[k] == 3 ? 2 * fire : kinds[k] == 6 ? 2 * fire + 5 : fire;
                    int settles = burns * (soot[k] - 3 * high) / 100;
                    SmokeRoofs x = Towns.onceADay(0);
                    x.change(0, 0, kinds[k]);
                    x.change(0, 3, high);
                    x.change(0, 4, fire);
                    String what = "14: kind " + kinds[k] + " high " + high + " fire " + fire;
                    due(what, x.hours(1), settles);
                    due(what + " in the air", x.air(0, 1), burns - settles);
                    due(what + " on the roof", x.settled(0, 1), settles);
                    due(what + " touches", x.touched(0), settles > 0 ? 2 : 0);
                    due(what + " is over", x.over(1), burns > settles ? 1 : 0);
                }
            }
        }
    }

    private static void theCoins() {
        int[] worth = {0, 2, -3, -1, 3, -6, -1};
        int[] soot = {27, 27, 27, 27, 27, 47, 57};
        int[] burns = {20, 20, 20, 40, 20, 20, 45};
        for (int kind = 0; kind < 7; kind++) {
            int parts = burns[kind] * soot[kind] / 100;
            SmokeRoofs x = Towns.onceADay(0);
            x.change(0, 0, kind);
            x.hours(1);
            due("7: kind " + kind + " pays or is paid", x.book(0), parts * worth[kind]);
            due("7: by or to the roof's", x.book(1), -parts * worth[kind]);
            due("8: kind " + kind, x.strike(), Math.abs(parts * worth[kind]));
            SmokeRoofs y = Towns.onceADay(0);
            y.change(0, 0, kind);
            due("15: dirt of kind " + kind, y.ahead(1, 10), worth[kind] < 0 ? parts : 0);
        }
    }

    private static void whoPays() {
        for (int owner = 0; owner < 6; owner++) {
            for (int roof = -1; roof < 6; roof++) {
                SmokeRoofs x = Towns.onceADay(0);
                x.change(0, 1, owner);
                x.roof(1, roof);
                boolean isPaid = roof >= 0 && roof != owner;
                int[] coins = new int[6];
                if (isPaid) {
                    coins[owner] = -15;
                    coins[roof] = 15;
                }
                for (int o = 0; o < 6; o++) {
                    due("15: dirt, his own, too", x.ahead(1, 9 + o), o == roof ? 5 : 0);
                    due("15: " + owner + " smokes on " + roof, x.ahead(1, 3 + o), coins[o]);
                }
                due("20: one yard more", x.gains(0, 1), isPaid ? 1 << owner : 0);
                x.hours(1);
                for (int o = 0; o < 6; o++) {
                    due("14: " + owner + " smokes on " + roof, x.book(o), coins[o]);
                }
                due("13: " + owner + " touches " + roof, x.touched(0), roof < 0 ? 0 : 1 << roof);
            }
        }
    }

    /** Bread that comes to the roofs of one after the other: with 3 hundredths, not 6, they pay less for it. */
    private static void gainsOfSeveral() {
        SmokeRoofs x = Towns.windy(2);
        x.chimney(1, 0, 0);
        x.change(0, 3, 8);
        x.change(0, 4, 99);
        for (int cell = 1; cell < 6; cell++) {
            x.roof(cell, cell);
        }
        for (int n = 1; n <= 24; n++) {
            due("20: those of " + n + " hours", x.gains(0, n), (2 << Math.min(n, 5)) - 2);
        }
        x.change(0, 0, 2);
        due("20: he who pays for dirt", x.gains(0, 24), 1);
        x.change(0, 3, 9);
        due("20: no yard more", x.gains(0, 24), Check.STATE);
    }

    /** Each cell against each other one: more, as many, less. */
    private static void thickestOfTwo() {
        int[] steps = {0, -6, 1, 6, -1};
        for (int v = 1; v < 5; v++) {
            for (int i = 0; i < 36 * 36; i++) {
                int a = i / 36;
                int b = i % 36;
                if (a == b || isOutBy(a, v) || isOutBy(b, v)) {
                    continue;
                }
                for (int fire = 19; fire <= 21; fire++) {
                    SmokeRoofs x = new SmokeRoofs();
                    x.wind(0, v);
                    x.chimney(0, 0, a);
                    x.chimney(0, 0, b);
                    x.change(0, 3, 9);
                    x.change(1, 3, 9);
                    x.change(0, 4, fire);
                    x.hours(1);
                    int from = fire == 20 ? Math.min(a, b) : fire < 20 ? b : a;
                    due("12: " + fire + " of " + a + ", 20 of " + b + " by " + v, x.thickest(), from + steps[v]);
                }
            }
        }
    }

    private static boolean isOutBy(int cell, int v) {
        return v == 1 && cell < 6 || v == 2 && cell % 6 == 5 || v == 3 && cell >= 30 || v == 4 && cell % 6 == 0;
    }

    /** Of several that would do the least number counts, also where it isn't 0. */
    private static void theLeastOfSeveral() {
        for (int a = 0; a < 8; a++) {
            for (int b = a + 1; b < 8; b++) {
                SmokeRoofs x = Towns.windy(2);
                x.roof(1, 1);
                for (int i = 0; i < 8; i++) {
                    x.chimney(i == a || i == b ? 2 : 1, 0, 0);
                }
                due("24: of " + a + " and " + b, x.worst(1, 24), a);
                due("23: all but " + a + " and " + b, x.washing(1, 12), 255 & ~(1 << a | 1 << b));
                x.change(a, 4, 19);
                due("24: as many parts of " + a + " and " + b, x.worst(1, 1), a);
                x.change(a, 4, 18);
                due("24: " + a + " or " + b, x.worst(1, 1), b);
            }
        }
        for (int a = 0; a < 6; a++) {
            for (int b = a + 1; b < 6; b++) {
                SmokeRoofs x = Towns.windy(2);
                x.chimney(2, 0, 6 * a);
                x.chimney(2, 0, 6 * b + 2);
                due("22: of rows " + a + " and " + b, x.build(1, 1), 6 * a + 1);
                x.change(0, 4, 16);
                due("22: " + b + " pays more", x.build(1, 1), 6 * b + 3);
                x.roof(6 * a + 1, 1);
                x.roof(6 * b + 3, 2);
                x.change(0, 0, 1);
                due("18: of rows " + a + " and " + b, x.place(0, 1), 6 * a);
                x.roof(6 * a + 1, 0);
                due("18: not on his own", x.place(0, 1), 6 * b + 2);
            }
        }
        // Dirt settles at all clocks but two: the first of these two is the one to light at.
        for (int a = 0; a < 24; a++) {
            for (int b = a + 1; b < 24; b++) {
                SmokeRoofs x = Towns.windy(2);
                x.wind(a, 0);
                x.wind(b, 0);
                x.roof(1, 1);
                x.chimney(2, 0, 0);
                x.change(0, 6, 1);
                due("21: of " + a + " and " + b, x.when(0, 1, 24), a);
            }
        }
    }

    /** At each clock and of each kind: an oven's last is 11, and only what burns comes to the air. */
    private static void theBurning() {
        for (int kind = 0; kind < 7; kind++) {
            for (int clock = 0; clock < 24; clock++) {
                SmokeRoofs x = Towns.onceADay(clock);
                x.change(0, 0, kind);
                int burns = kind == 3 ? 40 : kind == 6 ? 45 : kind == 4 && clock >= 12 ? 0 : 20;
                due("26: kind " + kind + " at " + clock, x.canHave(kind, clock, 1, 1), burns > 0 ? 1 : 0);
                if (clock > 0) {
                    x.hours(clock);
                }
                int before = x.parts(0, 2);
                due("5: kind " + kind + " burns at " + clock, x.of(0, 9), burns);
                x.hours(1);
                due("11: kind " + kind + " burnt at " + clock, x.parts(0, 2) - before, burns);
                due("9: kind " + kind + " over no cell but one", x.air(0, -1), x.air(0, 1));
                due("10: nothing on its own cell", x.settled(0, 0), 0);
                x.change(0, 6, 0);
                due("5: kind " + kind + " is out", x.of(0, 9), 0);
            }
        }
    }

    private static void litRoundTheClock() {
        for (int clock = 0; clock < 24; clock++) {
            for (int first = 0; first < 24; first++) {
                SmokeRoofs x = new SmokeRoofs();
                x.chimney(0, 0, 0);
                x.change(0, 5, first);
                if (clock > 0) {
                    x.hours(clock);
                }
                int since = clock >= first ? clock - first : clock + 24 - first;
                for (int hours = 0; hours <= 24; hours++) {
                    x.change(0, 6, hours);
                    due("Terms: lit at " + clock + " from " + first + " for " + hours, x.of(0, 9),
                        since < hours ? 20 : 0);
                }
            }
        }
    }

    private static void theClockOfTheHour() {
        for (int hour : new int[] {0, 23, 24, 25, 47, 48, 9975, 9983, 9984, 9998, 9999}) {
            SmokeRoofs x = Towns.atHour(hour);
            due("43: HOUR", x.count(0), hour);
            x.chimney(0, 0, 0);
            x.change(0, 6, 1);
            for (int clock = 0; clock < 24; clock++) {
                x.change(0, 5, clock);
                due("Terms: the clock of " + hour + " is " + clock, x.of(0, 9), clock == hour % 24 ? 20 : 0);
            }
        }
    }

    private static void overMidnight() {
        SmokeRoofs x = Towns.onceADay(0);
        x.change(0, 6, 0);
        x.hours(23);
        x.change(0, 6, 24);
        due("15: clock 23", x.ahead(1, 0), 0);
        due("15: clock 0 is behind 23", x.ahead(2, 0), 5);
        due("17: likewise", x.reaches(0, 1), 2);
        due("18: likewise", x.place(0, 1), 0);
        due("18: likewise, two", x.place(0, 2), 1);
        x.sheet(0, 8, 26);
        x.write(0, 1, 5);
        due("39: and a day later", x.judge(0), 26);
        x.write(0, 25, 5);
        due("39: both", x.judge(0), 0);
        due("14: clock 23", x.hours(1), 0);
        due("14: clock 0", x.hours(1), 5);
        due("16: clear by the calm of 1", x.clear(0), 1);
    }

    /** What leaves the town comes in at no other side, in no call. */
    private static void offTheEdges() {
        for (int v = 1; v < 5; v++) {
            for (int cell = 0; cell < 36; cell++) {
                int row = cell / 6 + (v == 3 ? 1 : v == 1 ? -1 : 0);
                int column = cell % 6 + (v == 2 ? 1 : v == 4 ? -1 : 0);
                boolean isOut = row < 0 || row > 5 || column < 0 || column > 5;
                SmokeRoofs x = Towns.windy(v);
                x.chimney(0, 0, cell);
                due("15: from " + cell + " by " + v, x.ahead(1, 2), isOut ? 20 : 0);
                for (int to = 0; to < 36; to++) {
                    boolean isThere = !isOut && to == 6 * row + column;
                    due("26: from " + cell + " by " + v + " to " + to, x.canHave(0, 0, to, 1), isThere ? 1 : 0);
                    due("27: from " + cell + " by " + v + " to " + to, x.clocks(0, to, 1),
                        isThere ? (1 << 24) - 1 : 0);
                }
                x.hours(1);
                for (int to = 0; to < 36; to++) {
                    boolean isThere = !isOut && to == 6 * row + column;
                    due("25: from " + cell + " by " + v + " to " + to, x.over(to), isThere ? 1 : 0);
                    due("10: from " + cell + " by " + v + " on " + to, x.settled(0, to), isThere ? 5 : 0);
                }
            }
        }
    }

    private static void draws() {
        int[] seeds = {0, 1, -1, 255, 256, -256, MAX, MIN, MAX - 1, MIN + 1, 1 << 24, -(1 << 24), 987654321};
        for (int seed : seeds) {
            SmokeRoofs x = new SmokeRoofs();
            x.seed(seed);
            long z = seed & 0xFFFFFFFFL;
            z = z * 1103515245L + 12345L & 0xFFFFFFFFL;
            int clock = (int) ((z >> 8) % 24);
            z = z * 1103515245L + 12345L & 0xFFFFFFFFL;
            int wind = (int) ((z >> 8) % 5);
            for (int c = 0; c < 24; c++) {
                x.wind(c, 1);
            }
            due("28: calm behind seed " + seed, x.weather(1), wind == 0 ? 1 : 0);
            due("28: z behind seed " + seed, x.count(6), (int) z);
            due("28: wind behind seed " + seed, x.wind(clock, 1), wind);
            for (int c = 0; c < 24; c++) {
                due("28: no other clock", x.wind(c, 1), 1);
            }
        }
        for (int n = 1; n <= 24; n++) {
            SmokeRoofs x = new SmokeRoofs();
            SmokeRoofs y = new SmokeRoofs();
            int calm = x.weather(n);
            int last = 0;
            for (int i = 0; i < n; i++) {
                last = y.weather(1);
            }
            due("28: " + n + " are " + n + " times one", calm, last);
            due("28: z of " + n, x.count(6), y.count(6));
        }
    }

    /** What seed() and count(6) tell may be any int: that is no finding. */
    private static void anyZ() {
        SmokeRoofs x = new SmokeRoofs();
        int was = 1;
        int[] all = {B, Check.FULL, Check.KIND, Check.NONE, Check.STATE, Check.MISSING, Check.SIZE, -1000000, MIN, MAX,
            0, -1};
        for (int z : all) {
            due("29: what it was", x.seed(z), was);
            due("43: z", x.count(6), z);
            was = z;
        }
        due("44: no finding", x.status(-1), 0);
    }

    /** The n lowest bytes, the highest of these first; a byte above 127 is one, too. */
    private static void bytesOfNumbers() {
        int number = 'r' << 24 | 'o' << 16 | 'o' << 8 | 'f';
        String rest = "35of 5";
        for (int n = 1; n <= 4; n++) {
            SmokeRoofs x = new SmokeRoofs();
            Check.feed(x, "roof".substring(0, 4 - n));
            due("30: " + n + " lowest bytes", x.feed(number, n), 4);
            due("32: " + n + " lowest bytes", Check.read(x, rest), 1);
            due("32: so", x.roof(35, -1), 5);
            SmokeRoofs high = new SmokeRoofs();
            high.feed(0x80A0C0FF, n);
            due("32: bytes above 127", high.text(), -1);
            for (int i = 0; i < n; i++) {
                SmokeRoofs y = new SmokeRoofs();
                y.feed(0x20202020 ^ 0xDF << 8 * (n - 1 - i), n);
                due("32: byte 255 at " + i + " of " + n, y.text(), -1 - i);
            }
        }
    }

    /** The lowest bits are kept, and all of them. */
    private static void bitsOfNumbers() {
        for (int v = -520; v <= 520; v++) {
            due("36: " + v + " of 8 bits", windOf(8, v), (v & 255) <= 4 ? v & 255 : -1);
        }
        for (int bits : new int[] {8, 16, 32}) {
            for (int shift = 0; shift < 32; shift++) {
                for (int v = 0; v <= 4; v++) {
                    int whole = v | 1 << shift;
                    int kept = shift >= bits ? v : whole;
                    due("36: " + whole + " of " + bits + " bits", windOf(bits, whole),
                        kept >= 0 && kept <= 4 ? kept : -1);
                }
            }
            due("36: the lowest of " + bits, windOf(bits, MIN), bits == 32 ? -1 : 0);
            due("36: the highest of " + bits, windOf(bits, MAX), -1);
            due("36: -1 of " + bits, windOf(bits, -1), -1);
        }
    }

    /** A number of a sheet, seen as a wind, or -1 where it is none. */
    private static int windOf(int bits, int v) {
        SmokeRoofs x = new SmokeRoofs();
        x.sheet(1, bits, 2);
        due("36: written", x.write(1, 1, v), 1);
        return x.load(1) == 2 ? x.wind(1, 0) : -1;
    }

    /** 127 parts, and 128, settle in an hour: of 8 bits 128 is told as -128. */
    private static void theSignOf8Bits() {
        for (int parts = 127; parts <= 128; parts++) {
            SmokeRoofs x = Towns.windy(2);
            x.chimney(6, 0, 0);
            x.change(0, 3, 0);
            x.change(0, 4, 99);
            x.chimney(0, 0, 0);
            x.change(1, 3, 0);
            x.change(1, 4, parts == 127 ? 20 : 24);
            judgeBits(x, parts, 8);
        }
    }

    /** 32767 parts, and 32768, settle in an hour: of 16 bits 32768 is told as -32768. */
    private static void theSignOf16Bits() {
        for (int parts = 32767; parts <= 32768; parts++) {
            SmokeRoofs x = Towns.thick();
            x.change(0, 3, 9);
            x.change(0, 4, 0);
            x.change(1, 4, parts == 32767 ? 75 : 76);
            judgeBits(x, parts, 16);
        }
    }

    /** So many parts settle in the next hour, the most that numbers of few bits can tell, or one more. */
    private static void judgeBits(SmokeRoofs x, int parts, int few) {
        due("36: they settle", x.ahead(1, 0), parts);
        boolean isMost = parts == (1 << few - 1) - 1;
        for (int bits : new int[] {few, 2 * few, 32}) {
            x.sheet(0, bits, 1);
            x.write(0, 0, parts);
            due("36: " + parts + " of " + bits + " bits", x.judge(0), bits == few && !isMost ? 1 : 0);
            int wrapped = parts - (1 << few);
            x.write(0, 0, wrapped);
            due("36: " + wrapped + " of " + bits + " bits", x.judge(0), bits == few && isMost ? 0 : 1);
        }
    }

    /** n numbers come as they all were, wherever from and to are in the same sheet. */
    private static void copiesOnThemselves() {
        int size = 7;
        int[] all = {0, 1, 2, 3, 4, 2, 0};
        for (int from = 0; from <= size; from++) {
            for (int to = 0; to <= size; to++) {
                for (int n = 0; n <= size - Math.max(from, to); n++) {
                    SmokeRoofs x = new SmokeRoofs();
                    x.sheet(0, 16, size);
                    int[] want = all.clone();
                    for (int i = 0; i < size; i++) {
                        x.write(0, i, all[i]);
                    }
                    System.arraycopy(all, from, want, to, n);
                    due("37: copy", x.copy(0, from, 0, to, n), n);
                    x.load(0);
                    for (int i = 0; i < size; i++) {
                        due("37: " + n + " from " + from + " to " + to, x.wind(i, 0), want[i]);
                    }
                }
            }
        }
    }

    private static void loadsToTheEnd() {
        for (int n = 0; n <= 40; n++) {
            SmokeRoofs x = Towns.windy(3);
            x.sheet(2, 8, n);
            due("38: of " + n + " numbers", x.load(2), Math.min(n, 24));
            for (int clock = 0; clock < 24; clock++) {
                due("38: wind of " + clock, x.wind(clock, 3), clock < n ? 0 : 3);
            }
        }
        int[] wrong = {-1, 5, 127, -128};
        for (int at = 0; at < 40; at++) {
            SmokeRoofs x = Towns.windy(3);
            x.sheet(2, 8, 40);
            for (int i = 0; i < 40; i++) {
                x.write(2, i, 4);
            }
            x.write(2, at, wrong[at % 4]);
            due("38: up to " + at, x.load(2), Math.min(at, 24));
            for (int clock = 0; clock < 24; clock++) {
                due("38: wind of " + clock, x.wind(clock, 3), clock < at ? 4 : 3);
            }
        }
        for (int v = 0; v <= 4; v++) {
            SmokeRoofs x = new SmokeRoofs();
            x.sheet(0, 32, 24);
            x.write(0, 23, v);
            due("38: " + v + " is a wind", x.load(0), 24);
            due("38: at 23", x.wind(23, 0), v);
        }
    }

    private static void judgesToTheEnd() {
        SmokeRoofs x = Towns.with(3);
        x.sheet(0, 32, 40);
        int before = 0;
        for (int i = 0; i < 40; i++) {
            int now = x.ahead(i + 1, 0);
            x.write(0, i, now - before);
            before = now;
        }
        due("39: all forty are", x.judge(0), 0);
        for (int i = 39; i >= 0; i--) {
            x.write(0, i, -1);
            due("39: the first that isn't, at " + i, x.judge(0), 1 + i);
        }
    }

    private static void allTaken() {
        SmokeRoofs x = new SmokeRoofs();
        Towns.addRoofs(x);
        due("43: 36 roofs", x.count(2), 36);
        for (int i = 0; i < 8; i++) {
            due("4: chimney " + i, x.chimney(6, 5, 35), i);
        }
        due("43: eight chimneys", x.count(1), 8);
        for (int spot = 0; spot < 10; spot++) {
            due("33: spot " + spot, x.hold(spot, 7), 1);
            due("43: spots", x.count(7), spot + 1);
            due("34: spot " + spot, x.as(spot, 6), 7);
        }
        due("33: nothing any more", x.hold(9, -1), 1);
        due("43: one less", x.count(7), 9);
        due("33: the last chimney again", x.hold(9, 7), 1);
        for (int s = 0; s < 4; s++) {
            due("35: sheet " + s, x.sheet(s, 32, 40), 40);
            due("36: the last number of " + s, x.write(s, 39, MIN), 1);
        }
        due("26: eight can have", x.canHave(6, 0, 34, 1), 0);
        x.wind(0, 4);
        due("26: eight can have", x.canHave(6, 0, 34, 1), 255);
        x.hours(1);
        due("25: eight are over", x.over(34), 255);
        due("13: the last touches", x.touched(7), 1 << 34 % 6);
        due("2: the last roof", x.roof(35, -1), 5);
        due("43: 35 roofs", x.count(2), 35);
        due("22: the one cell", x.build(0, 24), 35);
        due("2: was none", x.roof(35, 0), -1);
        due("22: no cell", x.build(0, 24), Check.NONE);
    }

    private static void roomAgain() {
        SmokeRoofs x = Towns.with(7);
        x.image();
        due("4: the eighth", x.chimney(0, 0, 0), 7);
        due("4: FULL", x.chimney(0, 0, 0), Check.FULL);
        x.hold(0, 7);
        x.undo();
        due("41: its spot holds nothing", x.as(0, 0), Check.MISSING);
        due("41: it is not there", x.of(7, 0), B);
        due("41: nor to be held", x.hold(0, 7), B);
        due("4: room for one again", x.chimney(4, 3, 2), 7);
        due("4: and for no other", x.chimney(0, 0, 0), Check.FULL);
        String blanks = " ".repeat(120);
        Check.feed(x, blanks);
        due("30: full", x.feed(' ', 1), Check.FULL);
        due("31: had 120", x.wipe(), 120);
        due("30: room again", x.feed(0x20202020, 4), 4);
        Check.feed(x, blanks.substring(4));
        due("43: full again", x.count(5), 120);
        due("32: a fault makes room", x.text(), -121);
        due("30: room again", x.feed(' ', 1), 1);
    }

    /** A BOOK may be below 0, far too; it is told as it is, and that is no finding. */
    private static void farBelowZero() {
        SmokeRoofs x = Towns.windy(2);
        for (int i = 0; i < 8; i++) {
            x.chimney(5, 0, 0);
            x.change(i, 3, 0);
            x.change(i, 4, 99);
        }
        for (int cell = 1; cell < 6; cell++) {
            x.roof(cell, 1);
        }
        int parts = 0;
        for (int i = 0; i < 10; i++) {
            parts += x.hours(48);
        }
        Check.holds("7: " + parts + " parts are many", 6 * parts > 1000007);
        due("7: pays for all", x.book(0), -6 * parts);
        due("15: and is told so ahead", x.ahead(0, 3), -6 * parts);
        due("7: is paid for all", x.book(1), 6 * parts);
        due("44: no finding", x.status(-1), 0);
        due("8: those above 0", x.strike(), 6 * parts);
        due("8: all are 0", x.book(0), 0);
    }

    private static void keptAndNotKept() {
        Twins.same("41: all but the tape and sheets is as it was kept", Towns::full, SmokeRoofs::undo,
            Towns::fullAgain, y -> 0);
        Twins.same("41: it stays", Towns::full, x -> x.undo() + x.hours(9) + x.undo(), Towns::fullAgain, y -> 0);
        Twins.same("40: the latest", Towns::fullAgain, x -> x.hours(9) + x.image() + x.hours(1) + x.undo(),
            Towns::fullAgain, y -> y.hours(9) + y.image());
        Twins.same("42: nothing but what is kept", Towns::fullAgain, x -> x.tear() + x.image(), Towns::fullAgain,
            y -> 0);
        due("41: HOUR", Towns.full().undo(), 7);
        due("41: HOUR at the end", Towns.late(Towns.LAST_HOUR).undo(), Towns.LAST_HOUR - 3);
    }

    private static void status() {
        SmokeRoofs x = Towns.full();
        int[] told = new int[7];
        for (int i = 0; i < 40; i++) {
            int[] answers = {x.book(6), x.chimney(0, 0, 0), x.as(0, 1), x.gains(3, 1), x.load(2), x.sheet(0, 8, -1)};
            for (int answer : answers) {
                told[B - answer]++;
            }
        }
        for (int which = 0; which < 7; which++) {
            due("44: which " + which, x.status(which), told[which]);
        }
        due("44: all", x.status(-1), 240);
        due("41: none is taken back", x.undo(), 7);
        due("44: none is taken back", x.status(-1), 240);
        due("44: which 7", x.status(7), B);
        due("44: counted from then on", x.status(0), 41);
        due("44: all from then on", x.status(-1), 241);
    }
}
