/**
 * Of each argument of each call the last number that is allowed and the first that isn't, on either
 * side, and all between: BEYOND is answered where one is out of its bounds, and nowhere else.
 */
public final class BoundsTest {
    private static final int[] FAR = {Integer.MIN_VALUE, Integer.MIN_VALUE + 1, -65536, -256, -255, 256, 65536,
        Integer.MAX_VALUE - 1, Integer.MAX_VALUE};
    private static final int[] CHIMNEYS = {0, 1, 7, 8};
    private static final int[] TRAIT_LIMITS = {6, 5, 35, 9, 99, 23, 24};

    private BoundsTest() {
    }

    interface Act {
        int on(SmokeRoofs x, int[] a);
    }

    public static void main(String[] args) {
        town();
        for (int chimneys : CHIMNEYS) {
            ofChimneys(chimneys);
            choosing(chimneys);
        }
        change();
        hoursAndOwners();
        whoDidIt();
        tape();
        sheets();
        copies();
        images();
        Check.end();
    }

    /** Bounds are told as pairs, least and most of each argument. */
    private static void bounds(String name, Towns.Maker maker, Act act, int... bounds) {
        int[] good = new int[bounds.length / 2];
        for (int i = 0; i < good.length; i++) {
            good[i] = bounds[2 * i];
        }
        for (int i = 0; i < good.length; i++) {
            for (int v = bounds[2 * i] - 3; v <= bounds[2 * i + 1] + 3; v++) {
                ask(name, maker, act, put(good, i, v), bounds);
            }
            for (int v : FAR) {
                ask(name, maker, act, put(good, i, v), bounds);
            }
        }
        corners(name, maker, act, good, 0, bounds);
    }

    private static int[] put(int[] args, int i, int v) {
        int[] changed = args.clone();
        changed[i] = v;
        return changed;
    }

    /** All arguments at once at, or one past, their bounds. */
    private static void corners(String name, Towns.Maker maker, Act act, int[] args, int i, int[] bounds) {
        if (i == args.length) {
            ask(name, maker, act, args, bounds);
            return;
        }
        int least = bounds[2 * i];
        int most = bounds[2 * i + 1];
        for (int v : new int[] {least - 1, least, most, most + 1}) {
            corners(name, maker, act, put(args, i, v), i + 1, bounds);
        }
    }

    private static void ask(String name, Towns.Maker maker, Act act, int[] args, int[] bounds) {
        boolean isBeyond = false;
        for (int i = 0; i < args.length; i++) {
            isBeyond |= args[i] < bounds[2 * i] || args[i] > bounds[2 * i + 1];
        }
        SmokeRoofs x = maker.make();
        int before = x.status(0);
        String what = name + java.util.Arrays.toString(args);
        Check.due(what + " is BEYOND", act.on(x, args) == Check.BEYOND ? 1 : 0, isBeyond ? 1 : 0);
        Check.due(what + " is counted", x.status(0) - before, isBeyond ? 1 : 0);
    }

    private static void town() {
        bounds("2: roof", Towns::empty, (x, a) -> x.roof(a[0], a[1]), 0, 35, -1, 5);
        bounds("3: wind", Towns::empty, (x, a) -> x.wind(a[0], a[1]), 0, 23, 0, 4);
        bounds("4: chimney", Towns::empty, (x, a) -> x.chimney(a[0], a[1], a[2]), 0, 6, 0, 5, 0, 35);
        bounds("7: book", Towns::empty, (x, a) -> x.book(a[0]), 0, 5);
    }

    /** A chimney's number is good up to the last that there is. */
    private static void ofChimneys(int chimneys) {
        Towns.Maker maker = () -> Towns.with(chimneys);
        int last = chimneys - 1;
        String in = " of " + chimneys + " chimneys ";
        bounds("5: of" + in, maker, (x, a) -> x.of(a[0], a[1]), 0, last, 0, 9);
        bounds("9: air" + in, maker, (x, a) -> x.air(a[0], a[1]), -1, last, -1, 35);
        bounds("10: settled" + in, maker, (x, a) -> x.settled(a[0], a[1]), -1, last, -1, 35);
        bounds("11: parts" + in, maker, (x, a) -> x.parts(a[0], a[1]), 0, last, 0, 2);
        bounds("13: touched" + in, maker, (x, a) -> x.touched(a[0]), 0, last);
        bounds("16: clear" + in, maker, (x, a) -> x.clear(a[0]), 0, last);
        bounds("17: reaches" + in, maker, (x, a) -> x.reaches(a[0], a[1]), 0, last, 0, 5);
        bounds("33: hold" + in, maker, (x, a) -> x.hold(a[0], a[1]), 0, 9, -1, last);
        bounds("34: as" + in, maker, (x, a) -> x.as(a[0], a[1]), 0, 9, 0, 6);
    }

    private static void choosing(int chimneys) {
        Towns.Maker maker = () -> Towns.with(chimneys);
        int last = chimneys - 1;
        String in = " of " + chimneys + " chimneys ";
        bounds("18: place" + in, maker, (x, a) -> x.place(a[0], a[1]), 0, last, 1, 24);
        bounds("19: highFor" + in, maker, (x, a) -> x.highFor(a[0], a[1]), 0, last, 1, 24);
        bounds("20: gains" + in, maker, (x, a) -> x.gains(a[0], a[1]), 0, last, 1, 24);
        bounds("21: when" + in, maker, (x, a) -> x.when(a[0], a[1], a[2]), 0, last, 0, 5, 1, 24);
        bounds("27: clocks" + in, maker, (x, a) -> x.clocks(a[0], a[1], a[2]), 0, last, 0, 35, 1, 12);
    }

    /** How far the new number goes is another thing for each what. */
    private static void change() {
        for (int chimneys : CHIMNEYS) {
            Towns.Maker maker = () -> Towns.with(chimneys);
            bounds("6: change in " + chimneys, maker, (x, a) -> x.change(a[0], a[1], 0), 0, chimneys - 1, 0, 6);
        }
        for (int what = 0; what < TRAIT_LIMITS.length; what++) {
            int w = what;
            int most = TRAIT_LIMITS[what];
            bounds("6: change " + what, () -> Towns.with(2), (x, a) -> x.change(1, w, a[0]), 0, most);
            for (int v = 0; v <= most; v++) {
                SmokeRoofs x = Towns.with(2);
                x.change(1, what, v);
                Check.due("6: change " + what + " to " + v, x.of(1, what), v);
            }
        }
    }

    private static void hoursAndOwners() {
        Towns.Maker maker = () -> Towns.with(2);
        bounds("14: hours", maker, (x, a) -> x.hours(a[0]), 1, 48);
        bounds("15: ahead", maker, (x, a) -> x.ahead(a[0], a[1]), 0, 72, 0, 14);
        for (Towns.Maker m : new Towns.Maker[] {maker, Towns::empty, Towns::allRoofed}) {
            bounds("22: build", m, (x, a) -> x.build(a[0], a[1]), 0, 5, 1, 24);
            bounds("23: washing", m, (x, a) -> x.washing(a[0], a[1]), 0, 5, 1, 12);
            bounds("24: worst", m, (x, a) -> x.worst(a[0], a[1]), 0, 5, 1, 24);
        }
    }

    private static void whoDidIt() {
        for (Towns.Maker m : new Towns.Maker[] {Towns::empty, () -> Towns.with(8)}) {
            bounds("25: over", m, (x, a) -> x.over(a[0]), 0, 35);
            bounds("26: canHave", m, (x, a) -> x.canHave(a[0], a[1], a[2], a[3]), 0, 6, 0, 23, 0, 35, 1, 12);
        }
        bounds("28: weather", Towns::empty, (x, a) -> x.weather(a[0]), 1, 24);
    }

    private static void tape() {
        bounds("30: feed", Towns::empty, (x, a) -> x.feed(0, a[0]), 1, 4);
        int[] left = {4, 3, 2, 1, 0};
        for (int room : left) {
            for (int n = 1; n <= 4; n++) {
                SmokeRoofs x = taped(120 - room);
                boolean isFull = n > room;
                Check.due("30: " + n + " bytes where there is room for " + room, x.feed('x', n),
                    isFull ? Check.FULL : 120 - room + n);
                Check.due("30: the tape then", x.count(5), isFull ? 120 - room : 120 - room + n);
            }
        }
    }

    private static SmokeRoofs taped(int bytes) {
        SmokeRoofs x = new SmokeRoofs();
        for (int i = 0; i < bytes; i++) {
            x.feed(' ', 1);
        }
        return x;
    }

    private static void sheets() {
        for (int bits : new int[] {0, 8, 16, 32}) {
            // A number of numbers below 0 is no matter of BEYOND: it is SIZE, and asked on its own.
            bounds("35: sheet of " + bits, Towns::empty, (x, a) -> x.sheet(a[0], bits, 40), 0, 3);
            for (int n = 0; n <= 40; n++) {
                Check.due("35: " + n + " of " + bits, new SmokeRoofs().sheet(3, bits, n), bits == 0 ? 0 : n);
            }
            for (int n : new int[] {41, 42, 100, 65536, Integer.MAX_VALUE}) {
                Check.due("35: " + n + " of " + bits, new SmokeRoofs().sheet(3, bits, n), Check.BEYOND);
            }
            for (int n : new int[] {-1, -2, -40, -65536, Integer.MIN_VALUE}) {
                Check.due("35: " + n + " of " + bits, new SmokeRoofs().sheet(3, bits, n), Check.SIZE);
            }
        }
        for (int bits = -40; bits <= 300; bits++) {
            boolean isGood = bits == 0 || bits == 8 || bits == 16 || bits == 32;
            Check.due("35: of " + bits + " bits", new SmokeRoofs().sheet(0, bits, 1),
                isGood ? bits == 0 ? 0 : 1 : Check.BEYOND);
        }
        for (int n : new int[] {0, 1, 39, 40}) {
            bounds("36: write in " + n, () -> sheeted(n), (x, a) -> x.write(a[0], a[1], 1), 0, 3, 0, n - 1);
        }
        bounds("38: load", () -> sheeted(3), (x, a) -> x.load(a[0]), 0, 3);
        bounds("39: judge", () -> sheeted(3), (x, a) -> x.judge(a[0]), 0, 3);
    }

    /** All four sheets have n numbers of 16 bits. */
    private static SmokeRoofs sheeted(int n) {
        SmokeRoofs x = new SmokeRoofs();
        for (int s = 0; s < 4; s++) {
            x.sheet(s, 16, n);
        }
        return x;
    }

    private static void copies() {
        bounds("37: copy, sheets", () -> sheeted(4), (x, a) -> x.copy(a[0], 0, a[1], 0, 4), 0, 3, 0, 3);
        for (int n = 0; n <= 5; n++) {
            int many = n;
            bounds("37: copy " + n + " of 5 to 7", BoundsTest::fiveAndSeven,
                (x, a) -> x.copy(0, a[0], 1, a[1], many), 0, 5 - n, 0, 7 - n);
            bounds("37: copy " + n + " of 7 to 5", BoundsTest::fiveAndSeven,
                (x, a) -> x.copy(1, a[0], 0, a[1], many), 0, 7 - n, 0, 5 - n);
        }
        bounds("37: how many of 5 to 7", BoundsTest::fiveAndSeven, (x, a) -> x.copy(0, 2, 1, 0, a[0]), 0, 3);
        bounds("37: how many of 7 to 5", BoundsTest::fiveAndSeven, (x, a) -> x.copy(1, 0, 0, 1, a[0]), 0, 4);
        bounds("37: all of 40", () -> sheeted(40), (x, a) -> x.copy(0, a[0], 1, a[1], 40), 0, 0, 0, 0);
        bounds("37: how many of 40", () -> sheeted(40), (x, a) -> x.copy(0, 0, 1, 0, a[0]), 0, 40);
        bounds("37: the last of 40", () -> sheeted(40), (x, a) -> x.copy(0, a[0], 1, a[1], 1), 0, 39, 0, 39);
        bounds("37: of none", () -> sheeted(0), (x, a) -> x.copy(0, a[0], 1, a[1], a[2]), 0, 0, 0, 0, 0, 0);
    }

    private static SmokeRoofs fiveAndSeven() {
        SmokeRoofs x = new SmokeRoofs();
        x.sheet(0, 8, 5);
        x.sheet(1, 8, 7);
        return x;
    }

    private static void images() {
        for (Towns.Maker m : new Towns.Maker[] {Towns::empty, Towns::full}) {
            bounds("43: count", m, (x, a) -> x.count(a[0]), 0, 7);
            bounds("44: status", m, (x, a) -> x.status(a[0]), -1, 6);
        }
    }
}
