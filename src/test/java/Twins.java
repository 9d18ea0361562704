import java.util.Arrays;

/**
 * Tells whether a call changed anything: of two objects that were made alike one gets the call, and
 * then both are looked at through the whole face. Each look takes an object of its own, as it changes
 * what it looks at, and as an object is good for 512 calls.
 */
final class Twins {
    private static final int LOOKS = 9;
    private static final int LOOKS_BEHIND_UNDO = 6;
    private static final int FINDINGS = 7;

    private Twins() {
    }

    /** The call answers the finding, which is counted once, as what it is, and changes nothing else. */
    static void refused(String what, Towns.Maker maker, Towns.Call call, int finding) {
        Check.due(what, call.on(maker.make()), finding);
        told(what, maker, call, Check.BEYOND - finding);
        same(what + " changed something", maker, call, maker, x -> 0);
    }

    /** The call answers this, which is no finding, and changes nothing at all. */
    static void asked(String what, Towns.Maker maker, Towns.Call call, int answer) {
        Check.due(what, call.on(maker.make()), answer);
        told(what, maker, call, FINDINGS);
        same(what + " changed something", maker, call, maker, x -> 0);
    }

    /** Behind one call on one object all is as it is behind another on another. */
    static void same(String what, Towns.Maker maker, Towns.Call call, Towns.Maker other, Towns.Call otherCall) {
        for (int look = 0; look < LOOKS + LOOKS_BEHIND_UNDO; look++) {
            SmokeRoofs x = maker.make();
            call.on(x);
            SmokeRoofs y = other.make();
            otherCall.on(y);
            Check.holds(what + " (look " + look + ")", Arrays.equals(look(x, look), look(y, look)));
        }
    }

    private static void told(String what, Towns.Maker maker, Towns.Call call, int which) {
        SmokeRoofs x = maker.make();
        call.on(x);
        SmokeRoofs y = maker.make();
        for (int i = 0; i < FINDINGS; i++) {
            Check.due(what + ": status(" + i + ")", x.status(i) - y.status(i), i == which ? 1 : 0);
        }
        Check.due(what + ": status(-1)", x.status(-1) - y.status(-1), which < FINDINGS ? 1 : 0);
    }

    private static int[] look(SmokeRoofs x, int which) {
        if (which >= LOOKS) {
            int[] seen = look(x, x.undo() < 0 ? 0 : which - LOOKS);
            seen[0] += x.tear();
            return seen;
        }
        switch (which) {
            case 0:
                return numbers(x);
            case 1:
            case 2:
                return smoke(x, 4 * (which - 1), true);
            case 3:
            case 4:
                return smoke(x, 4 * (which - 3), false);
            case 5:
                return map(x);
            case 6:
                return sheetNumbers(x);
            case 7:
                return sheetSizes(x);
            default:
                return tape(x);
        }
    }

    /** 8 + 6 + 10 + 8 * 13 calls. */
    private static int[] numbers(SmokeRoofs x) {
        int[] seen = new int[200];
        int n = 0;
        for (int what = 0; what < 8; what++) {
            seen[n++] = x.count(what);
        }
        for (int owner = 0; owner < 6; owner++) {
            seen[n++] = x.book(owner);
        }
        for (int spot = 0; spot < 10; spot++) {
            seen[n++] = x.as(spot, 0);
        }
        for (int chimney = 0; chimney < 8; chimney++) {
            for (int what = 0; what < 10; what++) {
                seen[n++] = x.of(chimney, what);
            }
            for (int what = 0; what < 3; what++) {
                seen[n++] = x.parts(chimney, what);
            }
        }
        return seen;
    }

    /** Of four chimneys over each cell: 4 * 36 calls. */
    private static int[] smoke(SmokeRoofs x, int from, boolean inTheAir) {
        int[] seen = new int[4 * 36];
        for (int i = 0; i < seen.length; i++) {
            int chimney = from + i / 36;
            seen[i] = inTheAir ? x.air(chimney, i % 36) : x.settled(chimney, i % 36);
        }
        return seen;
    }

    /** 36 + 24 + 1 calls. */
    private static int[] map(SmokeRoofs x) {
        int[] seen = new int[61];
        for (int cell = 0; cell < 36; cell++) {
            seen[cell] = x.roof(cell, -1);
        }
        for (int clock = 0; clock < 24; clock++) {
            seen[36 + clock] = x.wind(clock, 0);
        }
        seen[60] = x.seed(0);
        return seen;
    }

    /** As winds, the first 24 and, of a sheet of 40, the last 24: 4 * 51 calls. */
    private static int[] sheetNumbers(SmokeRoofs x) {
        int[] seen = new int[4 * 51];
        int n = 0;
        for (int s = 0; s < 4; s++) {
            for (int half = 0; half < 2; half++) {
                seen[n++] = x.load(s);
                for (int clock = 0; clock < 24; clock++) {
                    seen[n++] = x.wind(clock, 0);
                }
                if (half == 0) {
                    seen[n++] = x.copy(s, 16, s, 0, 24);
                }
            }
        }
        return seen;
    }

    /** How many numbers, and of how many bits: 4 * 45 calls. */
    private static int[] sheetSizes(SmokeRoofs x) {
        int[] seen = new int[4 * 45];
        int n = 0;
        for (int s = 0; s < 4; s++) {
            for (int i = -1; i < 40; i++) {
                seen[n++] = x.write(s, i + 1, 0);
            }
            x.write(s, 0, 256 + 4);
            seen[n++] = x.load(s);
            x.write(s, 0, 65536 + 4);
            seen[n++] = x.load(s);
        }
        return seen;
    }

    /** What a text does that the tape holds: 2 + 61 calls. */
    private static int[] tape(SmokeRoofs x) {
        int items = x.text();
        int chimneys = x.count(1);
        int[] seen = map(x);
        seen[0] += 1000 * items + 100 * chimneys;
        return seen;
    }
}
