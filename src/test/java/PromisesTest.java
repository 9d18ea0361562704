/** For each promise what its words ask, worked out by hand: ordinary calls, edges, wrong ones. */
public final class PromisesTest {
    private static final int B = Check.BEYOND;
    private static final int MAX = Integer.MAX_VALUE;
    private static final int MIN = Integer.MIN_VALUE;

    private PromisesTest() {
    }

    public static void main(String[] args) {
        promise1();
        promise2();
        promise3();
        promise4();
        promise5();
        promise5Kinds();
        promise6();
        promise7and8();
        promise9and10();
        promise11();
        promise12();
        promise13();
        promise14();
        promise14Winds();
        promise15();
        promise16();
        promise17();
        promise18();
        promise19();
        promise20();
        promise21();
        promise22();
        promise23();
        promise24();
        promise25();
        promise26();
        promise27();
        promise28and29();
        promise30and31();
        promise32();
        promise32Faults();
        promise32Full();
        promise33and34();
        promise35();
        promise36();
        promise37();
        promise38();
        promise39();
        promise40to42();
        promise43();
        promise44();
        theLastHours();
        theFullTown();
        Check.end();
    }

    private static void due(String what, long got, long want) {
        Check.due(what, got, want);
    }

    /** One chimney of owner 0 on cell 0 (20 parts an hour, 27 hundredths settle), wind to the right. */
    private static SmokeRoofs smoky(int kind) {
        SmokeRoofs x = Towns.windy(2);
        x.chimney(kind, 0, 0);
        return x;
    }

    private static void promise1() {
        SmokeRoofs x = new SmokeRoofs();
        for (int what = 0; what < 8; what++) {
            due("1: count " + what, x.count(what), what == 6 ? 1 : 0);
        }
        for (int which = -1; which < 7; which++) {
            due("1: status " + which, x.status(which), 0);
        }
        for (int cell = 0; cell < 36; cell++) {
            due("1: no roof", x.roof(cell, -1), -1);
        }
        for (int clock = 0; clock < 24; clock++) {
            due("1: calm", x.wind(clock, 0), 0);
        }
        for (int owner = 0; owner < 6; owner++) {
            due("1: book", x.book(owner), 0);
        }
        for (int spot = 0; spot < 10; spot++) {
            due("1: spot", x.as(spot, 0), Check.MISSING);
        }
        for (int s = 0; s < 4; s++) {
            due("1: sheet", x.load(s), Check.MISSING);
        }
        due("1: tape", x.wipe(), 0);
        due("1: image", x.undo(), Check.NONE);
        due("1: two objects are two", new SmokeRoofs().status(-1), 0);
    }

    private static void promise2() {
        SmokeRoofs x = new SmokeRoofs();
        due("2: first", x.roof(35, 5), -1);
        due("2: was 5", x.roof(35, 0), 5);
        due("2: was 0", x.roof(35, -1), 0);
        due("2: was none", x.roof(35, 3), -1);
        due("2: cell 0", x.roof(0, 2), -1);
        due("2: roofs", x.count(2), 2);
        int[][] wrong = {{36, 0}, {-1, 0}, {0, 6}, {0, -2}, {MAX, 0}, {MIN, 0}, {0, MAX}, {0, MIN}};
        for (int[] w : wrong) {
            due("2: wrong", x.roof(w[0], w[1]), B);
        }
        due("2: wrong ones changed nothing", x.roof(0, 2), 2);
        due("2: told", x.status(0), 8);
    }

    private static void promise3() {
        SmokeRoofs x = new SmokeRoofs();
        due("3: first", x.wind(23, 4), 0);
        due("3: was 4", x.wind(23, 1), 4);
        due("3: was 1", x.wind(23, 0), 1);
        int[][] wrong = {{24, 0}, {-1, 0}, {0, 5}, {0, -1}, {MAX, 0}, {0, MIN}};
        for (int[] w : wrong) {
            due("3: wrong", x.wind(w[0], w[1]), B);
        }
        due("3: unchanged", x.wind(0, 0), 0);
    }

    private static void promise4() {
        SmokeRoofs x = new SmokeRoofs();
        int[][] wrong = {{7, 0, 0}, {-1, 0, 0}, {0, 6, 0}, {0, -1, 0}, {0, 0, 36}, {0, 0, -1}, {MAX, 0, 0}};
        for (int[] w : wrong) {
            due("4: wrong", x.chimney(w[0], w[1], w[2]), B);
        }
        for (int i = 0; i < 8; i++) {
            due("4: number", x.chimney(i % 7, i % 6, 35 - i), i);
        }
        due("4: BEYOND before FULL", x.chimney(7, 0, 0), B);
        due("4: FULL", x.chimney(6, 5, 35), Check.FULL);
        due("4: eight", x.count(1), 8);
        due("4: status FULL", x.status(1), 1);
    }

    private static void promise5() {
        SmokeRoofs x = new SmokeRoofs();
        x.chimney(2, 4, 17);
        int[] first = {2, 4, 17, 1, 20, 0, 24, -3, 27, 20};
        for (int what = 0; what < 10; what++) {
            due("5: what " + what, x.of(0, what), first[what]);
        }
        x.change(0, 5, 23);
        x.change(0, 6, 2);
        due("5: lit at 0 from 23 for 2", x.of(0, 9), 20);
        x.hours(1);
        due("5: out at 1", x.of(0, 9), 0);
        x.hours(21);
        due("5: out at 22", x.of(0, 9), 0);
        x.hours(1);
        due("5: lit at 23", x.of(0, 9), 20);
        x.change(0, 6, 0);
        due("5: never lit", x.of(0, 9), 0);
        due("5: what 10", x.of(0, 10), B);
        due("5: what -1", x.of(0, -1), B);
        due("5: chimney 1", x.of(1, 0), B);
        due("5: chimney -1", x.of(-1, 0), B);
    }

    private static void promise5Kinds() {
        int[] worth = {0, 2, -3, -1, 3, -6, -1};
        int[] soot = {30, 30, 30, 30, 30, 50, 60};
        int[] burns = {40, 40, 40, 80, 40, 40, 85};
        for (int kind = 0; kind < 7; kind++) {
            SmokeRoofs x = new SmokeRoofs();
            x.chimney(kind, 0, 0);
            x.change(0, 4, 40);
            due("5: worth of " + kind, x.of(0, 7), worth[kind]);
            due("5: burns of " + kind, x.of(0, 9), burns[kind]);
            for (int high = 0; high < 10; high++) {
                x.change(0, 3, high);
                due("5: sooty of " + kind, x.of(0, 8), soot[kind] - 3 * high);
            }
            x.hours(11);
            due("5: at 11 burns of " + kind, x.of(0, 9), burns[kind]);
            x.hours(1);
            due("5: at 12 burns of " + kind, x.of(0, 9), kind == 4 ? 0 : burns[kind]);
            x.hours(11);
            due("5: at 23 burns of " + kind, x.of(0, 9), kind == 4 ? 0 : burns[kind]);
            due("5: burnt of " + kind, x.parts(0, 2), burns[kind] * (kind == 4 ? 12 : 23));
        }
    }

    private static void promise6() {
        SmokeRoofs x = new SmokeRoofs();
        due("6: none yet", x.change(0, 0, 0), B);
        x.chimney(0, 0, 0);
        int[] first = {0, 0, 0, 1, 20, 0, 24};
        int[] most = {6, 5, 35, 9, 99, 23, 24};
        for (int what = 0; what < 7; what++) {
            due("6: was first", x.change(0, what, most[what]), first[what]);
            due("6: too much", x.change(0, what, most[what] + 1), B);
            due("6: too little", x.change(0, what, -1), B);
            due("6: is most", x.of(0, what), most[what]);
            due("6: to 0", x.change(0, what, 0), most[what]);
            due("6: is 0", x.of(0, what), 0);
        }
        due("6: what 7", x.change(0, 7, 0), B);
        due("6: what -1", x.change(0, -1, 0), B);
        due("6: what far", x.change(0, MAX, 0), B);
        due("6: chimney 1", x.change(1, 0, 0), B);
        due("6: chimney -1", x.change(-1, 0, 0), B);
    }

    private static void promise7and8() {
        SmokeRoofs x = smoky(2);
        x.roof(1, 1);
        x.roof(2, 2);
        x.hours(2);
        due("7: pays for both", x.book(0), -3 * (5 + 5 + 4));
        due("7: is paid", x.book(1), 30);
        due("7: is paid, too", x.book(2), 12);
        due("7: not touched", x.book(3), 0);
        due("7: owner 6", x.book(6), B);
        due("7: owner -1", x.book(-1), B);
        due("8: those above 0", x.strike(), 42);
        for (int owner = 0; owner < 6; owner++) {
            due("8: struck", x.book(owner), 0);
        }
        due("8: again", x.strike(), 0);
        SmokeRoofs good = smoky(1);
        good.roof(1, 1);
        good.roof(2, 0);
        good.hours(2);
        due("7: bread is paid for", good.book(0), 20);
        due("7: by whom it comes to", good.book(1), -20);
        due("8: sum", good.strike(), 20);
    }

    private static void promise9and10() {
        SmokeRoofs x = smoky(2);
        x.chimney(3, 1, 0);
        x.hours(2);
        due("9: 0 over 1", x.air(0, 1), 15);
        due("9: 0 over 2", x.air(0, 2), 11);
        due("9: 1 over 1", x.air(1, 1), 30);
        due("9: 1 over 2", x.air(1, 2), 22);
        due("9: all over 2", x.air(-1, 2), 33);
        due("9: 0 over all", x.air(0, -1), 26);
        due("9: all", x.air(-1, -1), 78);
        due("9: none over 0", x.air(-1, 0), 0);
        due("9: none over 35", x.air(-1, 35), 0);
        due("10: none on 35", x.settled(-1, 35), 0);
        due("10: 0 on 1", x.settled(0, 1), 10);
        due("10: 0 on 2", x.settled(0, 2), 4);
        due("10: 1 on 1", x.settled(1, 1), 20);
        due("10: 1 on 2", x.settled(1, 2), 8);
        due("10: all on 1", x.settled(-1, 1), 30);
        due("10: 1 on all", x.settled(1, -1), 28);
        due("10: all", x.settled(-1, -1), 42);
        SmokeRoofs left = Towns.windy(4);
        left.chimney(0, 0, 1);
        left.hours(1);
        due("9: all over cell 0", left.air(0, -1), 15);
        due("10: all on cell 0", left.settled(0, -1), 5);
        int[][] wrong = {{2, 0}, {-2, 0}, {0, 36}, {0, -2}, {MAX, MIN}, {8, 0}};
        for (int[] w : wrong) {
            due("9: wrong", x.air(w[0], w[1]), B);
            due("10: wrong", x.settled(w[0], w[1]), B);
        }
    }

    private static void promise11() {
        SmokeRoofs x = smoky(0);
        x.hours(6);
        due("11: out", x.parts(0, 0), 6);
        due("11: none in calm", x.parts(0, 1), 0);
        due("11: burnt", x.parts(0, 2), 120);
        int aloft = x.air(0, -1);
        x.wind(6, 0);
        due("11: nothing settles in calm", x.hours(1), 0);
        due("11: came down", x.parts(0, 1), aloft + 20);
        due("11: nothing aloft", x.air(0, -1), 0);
        due("11: out as it was", x.parts(0, 0), 6);
        due("11: what 3", x.parts(0, 3), B);
        due("11: what -1", x.parts(0, -1), B);
        due("11: chimney 1", x.parts(1, 0), B);
        due("11: chimney -1", x.parts(-1, 0), B);
    }

    private static void promise12() {
        SmokeRoofs x = new SmokeRoofs();
        due("12: none", x.thickest(), 0);
        x.wind(0, 3);
        x.chimney(0, 0, 20);
        x.chimney(0, 1, 10);
        x.hours(1);
        due("12: the least of two", x.thickest(), 16);
        SmokeRoofs y = new SmokeRoofs();
        y.wind(0, 3);
        y.chimney(0, 0, 10);
        y.chimney(0, 1, 20);
        y.chimney(0, 2, 20);
        y.hours(1);
        due("12: together", y.thickest(), 26);
        SmokeRoofs thin = smoky(0);
        thin.change(0, 4, 1);
        thin.hours(1);
        due("12: a single part", thin.thickest(), 1);
        due("25: a single part", thin.over(1), 1);
        due("26: a single part", thin.canHave(0, 0, 1, 1), 1);
    }

    private static void promise13() {
        SmokeRoofs x = smoky(0);
        x.roof(1, 3);
        x.roof(2, 0);
        x.roof(3, 5);
        due("13: not yet", x.touched(0), 0);
        x.hours(2);
        due("13: own ones, too", x.touched(0), 1 << 3 | 1);
        x.roof(1, 4);
        due("13: whose it is now", x.touched(0), 1 << 4 | 1);
        x.roof(2, -1);
        due("13: no roof", x.touched(0), 1 << 4);
        SmokeRoofs thin = Towns.windy(4);
        thin.chimney(0, 0, 1);
        thin.change(0, 4, 4);
        thin.roof(0, 2);
        thin.hours(1);
        due("13: a single part on cell 0", thin.touched(0), 1 << 2);
        due("13: chimney 1", x.touched(1), B);
        due("13: chimney -1", x.touched(-1), B);
    }

    private static void promise14() {
        SmokeRoofs x = smoky(0);
        int[] each = {5, 9, 11, 13, 14, 14};
        for (int i = 0; i < 6; i++) {
            due("14: hour " + i, x.hours(1), each[i]);
        }
        due("14: six", smoky(0).hours(6), 66);
        due("14: HOUR", x.count(0), 6);
        due("14: 0", x.hours(0), B);
        due("14: 49", x.hours(49), B);
        due("14: below", x.hours(MIN), B);
        SmokeRoofs end = Towns.atHour(9952);
        due("14: one too many", end.hours(48), Check.STATE);
        due("14: unchanged", end.count(0), 9952);
        due("14: up to the last", end.hours(47), 0);
        due("14: the last", end.count(0), 9999);
        due("14: no more", end.hours(1), Check.STATE);
        due("14: BEYOND first", end.hours(0), B);
    }

    private static void promise14Winds() {
        int[] to = {-1, 8, 15, 20, 13};
        int[] edge = {-1, 3, 11, 33, 12};
        for (int v = 1; v < 5; v++) {
            SmokeRoofs x = Towns.windy(v);
            x.chimney(0, 0, 14);
            x.hours(1);
            due("14: wind " + v, x.air(0, to[v]), 15);
            SmokeRoofs y = Towns.windy(v);
            y.chimney(0, 0, edge[v]);
            y.hours(1);
            due("14: out by wind " + v, y.parts(0, 0), 20);
            due("14: nowhere by wind " + v, y.air(0, -1) + y.settled(0, -1), 0);
        }
        for (int v = 1; v < 5; v++) {
            for (int cell = 0; cell < 36; cell++) {
                int row = cell / 6 + (v == 3 ? 1 : v == 1 ? -1 : 0);
                int column = cell % 6 + (v == 2 ? 1 : v == 4 ? -1 : 0);
                boolean isOut = row < 0 || row > 5 || column < 0 || column > 5;
                SmokeRoofs x = Towns.windy(v);
                x.chimney(0, 0, cell);
                x.hours(1);
                due("14: from " + cell + " by wind " + v, isOut ? x.parts(0, 0) : x.air(0, 6 * row + column),
                    isOut ? 20 : 15);
            }
        }
        SmokeRoofs whole = smoky(0);
        whole.change(0, 3, 0);
        whole.change(0, 4, 50);
        due("14: no more is cut than a rest", whole.hours(1), 15);
        SmokeRoofs day = new SmokeRoofs();
        day.wind(23, 2);
        day.chimney(0, 0, 0);
        due("14: calm till 22", day.hours(23), 0);
        due("14: wind of clock 23", day.hours(1), 5);
        due("14: calm again", day.hours(23), 0);
        due("14: the next day", day.hours(1), 5);
    }

    private static void promise15() {
        SmokeRoofs x = smoky(2);
        x.roof(1, 1);
        x.roof(2, 0);
        due("15: 0 hours", x.ahead(0, 0), 0);
        due("15: settles", x.ahead(6, 0), 66);
        due("15: town", x.ahead(6, 1), 0);
        due("15: out", x.ahead(6, 2), 6);
        due("15: book 0", x.ahead(2, 3), -30);
        due("15: book 1", x.ahead(2, 4), 30);
        due("15: book 5", x.ahead(2, 8), 0);
        due("15: dirt of own", x.ahead(2, 9), 4);
        due("15: dirt 1", x.ahead(2, 10), 10);
        due("15: dirt 5", x.ahead(2, 14), 0);
        due("15: nothing changed", x.count(0) + x.count(3) + x.count(4) + x.book(1), 0);
        x.hours(6);
        due("15: settles in them", x.ahead(0, 0), 0);
        due("15: out then", x.ahead(1, 2), 12);
        due("15: book is then's", x.ahead(0, 4), 90);
        due("15: dirt in them", x.ahead(0, 10), 0);
        x.wind(6, 0);
        due("15: town then", x.ahead(1, 1), 120 - 66 - 6 + 20);
        SmokeRoofs bread = smoky(1);
        bread.roof(1, 1);
        due("15: bread is no dirt", bread.ahead(5, 10), 0);
        int[][] wrong = {{73, 0}, {-1, 0}, {0, 15}, {0, -1}, {MAX, 0}, {0, MAX}};
        for (int[] w : wrong) {
            due("15: wrong", x.ahead(w[0], w[1]), B);
        }
    }

    private static void promise16() {
        SmokeRoofs x = smoky(0);
        due("16: at once", x.clear(0), 0);
        x.hours(1);
        due("16: never", x.clear(0), Check.NONE);
        x.change(0, 6, 0);
        due("16: blown out of town", x.clear(0), 5);
        x.wind(3, 0);
        due("16: calm", x.clear(0), 3);
        SmokeRoofs late = Towns.windy(2);
        late.change(late.chimney(0, 0, 0), 6, 1);
        late.hours(1);
        late.wind(23, 0);
        for (int clock = 0; clock < 23; clock++) {
            late.wind(clock, clock % 2 == 0 ? 1 : 3);
        }
        due("16: by the calm of 23", late.clear(0), 23);
        due("16: in the last hour", straying(0, 9).clear(0), 72);
        due("16: an hour too late", straying(1, 8).clear(0), Check.NONE);
        due("16: chimney 1", x.clear(1), B);
        due("16: chimney -1", x.clear(-1), B);
    }

    /** One puff beside a cell, at hour 1; it goes up and down, and a column to the right at one clock. */
    private static SmokeRoofs straying(int clockToRight, int cell) {
        SmokeRoofs x = new SmokeRoofs();
        x.chimney(0, 0, cell - 6);
        x.wind(0, 3);
        x.hours(1);
        x.change(0, 6, 0);
        int v = 3;
        for (int i = 1; i <= 24; i++) {
            if (i % 24 == clockToRight) {
                x.wind(i % 24, 2);
            } else {
                x.wind(i % 24, v);
                v = 4 - v;
            }
        }
        return x;
    }

    private static void promise17() {
        SmokeRoofs x = smoky(0);
        x.roof(4, 3);
        x.roof(5, 0);
        due("17: to cell 4", x.reaches(0, 3), 4);
        due("17: own one", x.reaches(0, 0), 5);
        due("17: without a roof", x.reaches(0, 1), Check.NONE);
        x.hours(6);
        due("17: at once again", x.reaches(0, 3), 1);
        due("17: what was ahead is forgotten", x.ahead(6, 0) * 0 + x.reaches(0, 1), Check.NONE);
        SmokeRoofs strays = new SmokeRoofs();
        strays.chimney(3, 0, 6);
        strays.change(0, 3, 9);
        strays.change(0, 4, 99);
        strays.change(0, 6, 1);
        for (int clock = 0; clock < 23; clock++) {
            strays.wind(clock, clock % 2 == 0 ? 3 : 1);
        }
        strays.wind(23, 2);
        strays.roof(27, 4);
        strays.roof(33, 5);
        due("17: in the last hour", strays.reaches(0, 4), 72);
        due("17: an hour too late", strays.reaches(0, 5), Check.NONE);
        SmokeRoofs again = smoky(0);
        again.roof(4, 3);
        again.ahead(6, 0);
        due("17: from now on", again.reaches(0, 3), 4);
        SmokeRoofs thin = smoky(0);
        thin.roof(1, 1);
        thin.change(0, 4, 3);
        due("17: too thin to settle", thin.reaches(0, 1), Check.NONE);
        thin.change(0, 4, 4);
        due("17: just enough", thin.reaches(0, 1), 1);
        SmokeRoofs far = smoky(0);
        far.roof(1, 1);
        for (int clock = 0; clock < 23; clock++) {
            far.wind(clock, 0);
        }
        due("17: at clock 23", far.reaches(0, 1), 24);
        due("17: chimney 1", x.reaches(1, 0), B);
        due("17: owner 6", x.reaches(0, 6), B);
        due("17: owner -1", x.reaches(0, -1), B);
    }

    private static void promise18() {
        SmokeRoofs x = Towns.windy(2);
        x.chimney(1, 0, 30);
        x.roof(8, 1);
        due("18: bread beside a roof", x.place(0, 1), 7);
        due("18: bread for two hours", x.place(0, 2), 7);
        x.roof(9, 2);
        due("18: bread before two roofs", x.place(0, 2), 7);
        x.roof(8, 0);
        due("18: past his own", x.place(0, 1), 8);
        due("18: nothing changed", x.of(0, 2), 30);
        SmokeRoofs bad = smoky(2);
        bad.roof(1, 1);
        due("18: the least that costs nothing", bad.place(0, 1), 1);
        SmokeRoofs none = smoky(0);
        due("18: all the same", none.place(0, 24), 0);
        wrongChoices("18", new int[] {none.place(1, 1), none.place(-1, 1), none.place(0, 0), none.place(0, 25)});
    }

    private static void wrongChoices(String promise, int[] answers) {
        for (int answer : answers) {
            due(promise + ": wrong", answer, B);
        }
    }

    private static void promise19() {
        SmokeRoofs x = smoky(1);
        x.roof(1, 1);
        due("19: bread low", x.highFor(0, 1), 0);
        SmokeRoofs bad = smoky(2);
        bad.roof(1, 1);
        due("19: bad smoke high", bad.highFor(0, 1), 9);
        bad.change(0, 4, 10);
        due("19: no higher than needed", bad.highFor(0, 1), 7);
        due("19: nothing changed", bad.of(0, 3), 1);
        wrongChoices("19", new int[] {x.highFor(1, 1), x.highFor(-1, 1), x.highFor(0, 0), x.highFor(0, 25)});
    }

    private static void promise20() {
        SmokeRoofs bad = smoky(2);
        bad.roof(1, 1);
        due("20: pays less", bad.gains(0, 1), 1);
        bad.change(0, 3, 2);
        due("20: one yard makes no part", bad.gains(0, 1), 0);
        bad.change(0, 3, 1);
        bad.change(0, 0, 1);
        due("20: pays less for bread", bad.gains(0, 1), 2);
        bad.roof(1, 0);
        due("20: own roof", bad.gains(0, 1), 0);
        bad.roof(1, 1);
        bad.change(0, 3, 8);
        due("20: from 8 to 9", bad.gains(0, 1), 2);
        bad.change(0, 3, 9);
        due("20: HIGH is 9", bad.gains(0, 1), Check.STATE);
        due("20: BEYOND first", bad.gains(0, 25), B);
        wrongChoices("20", new int[] {bad.gains(1, 1), bad.gains(-1, 1), bad.gains(0, 0)});
    }

    private static void promise21() {
        SmokeRoofs x = smoky(2);
        x.roof(1, 1);
        x.change(0, 6, 1);
        due("21: behind them", x.when(0, 1, 3), 3);
        due("21: behind one", x.when(0, 1, 1), 1);
        due("21: in a whole day no better", x.when(0, 1, 24), 0);
        due("21: all but the last", x.when(0, 1, 23), 23);
        x.wind(5, 1);
        due("21: when it blows away", x.when(0, 1, 24), 5);
        due("21: nothing changed", x.of(0, 5), 0);
        x.change(0, 0, 1);
        due("21: no dirt at all", x.when(0, 1, 24), 0);
        x.change(0, 0, 2);
        x.change(0, 1, 1);
        due("21: own dirt, too", x.when(0, 1, 3), 3);
        wrongChoices("21", new int[] {x.when(1, 0, 1), x.when(-1, 0, 1), x.when(0, 6, 1), x.when(0, -1, 1),
            x.when(0, 0, 0), x.when(0, 0, 25)});
    }

    private static void promise22() {
        SmokeRoofs x = smoky(2);
        due("22: where most is paid", x.build(1, 3), 1);
        x.roof(1, 2);
        due("22: not on a roof", x.build(1, 3), 2);
        due("22: his own smoke pays nothing", x.build(0, 3), 0);
        x.roof(0, 0);
        x.roof(2, 0);
        due("22: not on one of owner 0", x.build(1, 3), 3);
        due("22: not even his own", x.build(0, 3), 3);
        x.roof(0, -1);
        x.roof(2, -1);
        x.change(0, 0, 1);
        due("22: off the bread", x.build(1, 3), 0);
        x.roof(0, 2);
        due("22: off the bread, beside", x.build(1, 3), 4);
        due("22: nothing changed", x.count(2), 2);
        for (int cell = 0; cell < 36; cell++) {
            x.roof(cell, 5);
        }
        due("22: no room", x.build(1, 3), Check.NONE);
        x.roof(35, -1);
        due("22: one left", x.build(1, 3), 35);
        SmokeRoofs two = Towns.windy(2);
        two.wind(0, 0);
        two.chimney(2, 0, 0);
        two.chimney(3, 0, 6);
        due("22: calm now", two.build(1, 1), 0);
        due("22: 15 coins are more than 10", two.build(1, 2), 1);
        SmokeRoofs left = Towns.windy(4);
        left.chimney(1, 0, 1);
        due("22: off the bread of cell 0", left.build(1, 1), 1);
        SmokeRoofs moved = smoky(2);
        moved.hours(3);
        moved.change(0, 2, 12);
        due("22: what has settled pays no more", moved.build(1, 1), 13);
        wrongChoices("22", new int[] {x.build(6, 1), x.build(-1, 1), x.build(0, 0), x.build(0, 25)});
    }

    private static void promise23() {
        SmokeRoofs x = smoky(2);
        due("23: no roofs", x.washing(1, 12), 1);
        x.roof(1, 1);
        due("23: out with it", x.washing(1, 1), 0);
        x.chimney(1, 1, 0);
        x.chimney(3, 1, 0);
        x.chimney(0, 2, 0);
        due("23: own dirt counts, bread does not", x.washing(1, 1), 2 | 8);
        x.change(3, 4, 0);
        due("23: the least with most fire", x.washing(1, 1), 2);
        due("23: another owner", x.washing(2, 1), 1 | 2 | 4);
        due("23: nothing changed", x.of(0, 6), 24);
        x.hours(1);
        x.roof(2, 1);
        due("23: it is in the air", x.washing(1, 1), Check.NONE);
        due("23: no chimneys", new SmokeRoofs().washing(0, 1), 0);
        wrongChoices("23", new int[] {x.washing(6, 1), x.washing(-1, 1), x.washing(0, 0), x.washing(0, 13)});
    }

    private static void promise24() {
        SmokeRoofs x = Towns.windy(2);
        due("24: no chimneys", x.worst(0, 24), Check.NONE);
        due("24: BEYOND first", x.worst(0, 25), B);
        x.roof(1, 1);
        x.chimney(1, 0, 0);
        x.chimney(2, 0, 0);
        x.chimney(3, 0, 0);
        due("24: the forge burns twice", x.worst(1, 1), 2);
        x.change(1, 4, 99);
        due("24: more fire", x.worst(1, 1), 1);
        due("24: none", x.worst(2, 1), 0);
        x.change(0, 0, 5);
        x.change(0, 4, 99);
        due("24: the first", x.worst(1, 1), 0);
        x.change(0, 0, 1);
        due("24: nothing changed", x.of(1, 6), 24);
        SmokeRoofs last = Towns.windy(2);
        last.roof(2, 1);
        last.chimney(2, 0, 0);
        last.chimney(2, 0, 1);
        last.hours(1);
        last.change(1, 4, 4);
        due("24: what is in the air stays", last.worst(1, 1), 1);
        wrongChoices("24", new int[] {x.worst(6, 1), x.worst(-1, 1), x.worst(0, 0)});
    }

    private static void promise25() {
        SmokeRoofs x = smoky(0);
        x.chimney(0, 0, 1);
        x.chimney(0, 0, 6);
        due("25: none yet", x.over(1), 0);
        x.hours(2);
        due("25: one", x.over(1), 1);
        due("25: two", x.over(2), 3);
        due("25: another row", x.over(7), 4);
        due("25: cell 36", x.over(36), B);
        due("25: cell -1", x.over(-1), B);
    }

    private static void promise26() {
        SmokeRoofs x = Towns.windy(2);
        for (int kind = 0; kind < 7; kind++) {
            x.change(x.chimney(kind, 0, 0), 6, 0);
        }
        int[] under = {127, 2 | 16, 4 | 32, 8 | 64, 16, 32, 64};
        for (int kind = 0; kind < 7; kind++) {
            due("26: kind " + kind, x.canHave(kind, 0, 1, 1), under[kind]);
        }
        due("26: no oven from 12 on", x.canHave(0, 12, 1, 1), 127 - 16);
        due("26: the oven of 11 has gone on", x.canHave(4, 11, 1, 2), 0);
        due("26: there", x.canHave(4, 11, 2, 2), 16);
        due("26: the oven of the next day", x.canHave(4, 23, 1, 2), 16);
        due("26: each hour burns", x.canHave(1, 0, 1, 3), 2 | 16);
        x.wind(1, 0);
        due("26: calm", x.canHave(0, 0, 2, 2), 0);
        x.wind(1, 2);
        x.change(3, 4, 0);
        x.change(6, 4, 0);
        due("26: a kiln burns without fire", x.canHave(3, 0, 1, 1), 64);
        x.hours(1);
        x.change(0, 4, 0);
        due("26: no fire", x.canHave(0, 0, 1, 1) & 1, 0);
        SmokeRoofs full = smoky(0);
        full.hours(1);
        due("26: from empty air", full.canHave(0, 0, 2, 1), 0);
        due("26: nothing changed", x.count(0), 1);
        wrongChoices("26", new int[] {x.canHave(7, 0, 0, 1), x.canHave(-1, 0, 0, 1), x.canHave(0, 24, 0, 1),
            x.canHave(0, -1, 0, 1), x.canHave(0, 0, 36, 1), x.canHave(0, 0, -1, 1), x.canHave(0, 0, 0, 0),
            x.canHave(0, 0, 0, 13)});
    }

    private static void promise27() {
        SmokeRoofs x = new SmokeRoofs();
        x.chimney(0, 0, 0);
        x.change(0, 6, 0);
        due("27: calm", x.clocks(0, 0, 1), 0);
        x.wind(3, 2);
        x.wind(4, 3);
        x.wind(5, 4);
        x.wind(6, 1);
        due("27: one hour", x.clocks(0, 1, 1), 1 << 3);
        due("27: two", x.clocks(0, 7, 2), 1 << 3);
        due("27: back again", x.clocks(0, 0, 4), 1 << 3);
        due("27: calm behind it", x.clocks(0, 0, 5), 0);
        x.wind(23, 3);
        x.wind(0, 3);
        due("27: over midnight", x.clocks(0, 12, 2), 1 << 23);
        SmokeRoofs all = Towns.windy(2);
        all.chimney(0, 0, 0);
        due("27: all", all.clocks(0, 5, 5), (1 << 24) - 1);
        due("27: out of town", all.clocks(0, 6, 6), 0);
        all.change(0, 3, 0);
        all.change(0, 4, 1);
        due("27: if it didn't settle", all.clocks(0, 5, 5), (1 << 24) - 1);
        wrongChoices("27", new int[] {x.clocks(1, 0, 1), x.clocks(-1, 0, 1), x.clocks(0, 36, 1), x.clocks(0, -1, 1),
            x.clocks(0, 0, 0), x.clocks(0, 0, 13)});
    }

    private static void promise28and29() {
        SmokeRoofs x = new SmokeRoofs();
        long z = 1;
        int[] winds = new int[24];
        for (int i = 0; i < 24; i++) {
            z = (z * 1103515245L + 12345L) & 0xFFFFFFFFL;
            int clock = (int) ((z >> 8) % 24);
            z = (z * 1103515245L + 12345L) & 0xFFFFFFFFL;
            winds[clock] = (int) ((z >> 8) % 5);
        }
        int calm = 0;
        for (int v : winds) {
            calm += v == 0 ? 1 : 0;
        }
        due("28: calm then", x.weather(24), calm);
        due("28: z", x.count(6), (int) z);
        for (int clock = 0; clock < 24; clock++) {
            due("28: wind", x.wind(clock, 0), winds[clock]);
        }
        due("28: 0", x.weather(0), B);
        due("28: 25", x.weather(25), B);
        due("28: no draw then", x.count(6), (int) z);
        due("29: what it was", x.seed(7), (int) z);
        due("29: is", x.count(6), 7);
        x.seed(Check.BEYOND);
        int told = x.status(-1);
        due("29: no finding", x.seed(1), Check.BEYOND);
        x.seed(Check.FULL);
        due("29: no finding in count", x.count(6), Check.FULL);
        due("29: none told", x.status(-1), told);
        x.seed(1);
        for (int i = 0; i < 24; i++) {
            x.weather(1);
        }
        due("28: one by one", x.count(6), (int) z);
    }

    private static void promise30and31() {
        SmokeRoofs x = new SmokeRoofs();
        due("30: n 0", x.feed(0, 0), B);
        due("30: n 5", x.feed(0, 5), B);
        for (int i = 1; i <= 29; i++) {
            due("30: four more", x.feed(-1, 4), 4 * i);
        }
        due("30: three more", x.feed(0, 3), 119);
        due("30: full for two", x.feed(0, 2), Check.FULL);
        due("30: nothing came", x.count(5), 119);
        due("30: one more", x.feed(0, 1), 120);
        due("30: full", x.feed(0, 1), Check.FULL);
        due("30: BEYOND first", x.feed(0, 5), B);
        due("31: had", x.wipe(), 120);
        due("31: empty", x.wipe(), 0);
        x.feed('x' << 24 | 'y' << 16 | '$' << 8 | 'r', 1);
        x.feed('x' << 24 | 'o' << 16 | 'o' << 8 | 'f', 3);
        x.feed('0' << 24 | 'o' << 16 | 'f' << 8 | '1', 4);
        due("30: the lowest, highest first", x.text(), 1);
        due("30: so", x.roof(0, -1), 1);
    }

    private static void promise32() {
        SmokeRoofs x = new SmokeRoofs();
        due("32: roof", Check.read(x, "roof 35 of 5"), 1);
        due("32: tape is empty then", x.count(5), 0);
        due("32: so", x.roof(35, 5), 5);
        due("32: close", Check.read(x, "roof1of2;roof1of3;wind22 4 3"), 3);
        due("32: the latest", x.roof(1, 3), 3);
        due("32: wind", x.wind(22, 4), 4);
        due("32: next wind", x.wind(23, 3), 3);
        due("32: wide", Check.read(x, "   roof   007  of  0002   "), 1);
        due("32: zeros ahead", x.roof(7, -1), 2);
        String[] words = {"chimney", "baker", "tanner", "forge", "oven", "tar", "kiln"};
        for (int kind = 0; kind < 7; kind++) {
            due("32: " + words[kind], Check.read(x, words[kind] + " of 5 at 35"), 1);
            int[] first = {kind, 5, 35, 1, 20, 0, 24};
            for (int what = 0; what < 7; what++) {
                due("32: first", x.of(kind, what), first[what]);
            }
        }
        SmokeRoofs y = new SmokeRoofs();
        due("32: all", Check.read(y, "oven of 1 at 2 high 9 fire 99 from 23 long 0;tar of 0 at 0 from 0 long 24"), 2);
        int[] all = {4, 1, 2, 9, 99, 23, 0};
        for (int what = 0; what < 7; what++) {
            due("32: told " + what, y.of(0, what), all[what]);
        }
        due("32: high 0", Check.read(y, "tar of 0 at 0 high 0"), 1);
        due("32: is high 0", y.of(2, 3), 0);
        due("32: fire alone", Check.read(y, "tar of 0 at 0 fire 0"), 1);
        due("32: is 0", y.of(3, 4), 0);
        due("32: wind of all", Check.read(y, "wind 0 1 2 3 4 0 1 2 3 4 0 1 2 3 4 0 1 2 3 4 0 1 2 3 4"), 1);
        due("32: the last of them", y.wind(23, 0), 4);
        due("32: no findings", y.status(-1) + x.status(-1), 0);
    }

    private static void fault(String text, int at) {
        SmokeRoofs x = new SmokeRoofs();
        due("32: fault of '" + text + "'", Check.read(x, text), -1 - at);
        due("32: the tape is empty", x.count(5), 0);
        due("32: nothing changed", x.count(1) + x.count(2) + x.wind(0, 0) + x.status(-1), 0);
    }

    private static void promise32Faults() {
        fault("", 0);
        fault("   ", 3);
        fault(";", 0);
        fault("7", 0);
        fault("smoke", 0);
        fault("Roof 0 of 0", 0);
        fault("roofs 0 of 0", 0);
        fault("roo", 0);
        fault("woof 0 of 0", 0);
        fault("roofz 0 of 0", 0);
        fault("roofa 0 of 0", 0);
        fault("roof" + (char) ('a' - 1) + "0 of 0", 4);
        fault("roof" + (char) ('z' + 1) + "0 of 0", 4);
        fault("roof" + (char) ('0' - 1) + "0 of 0", 4);
        fault("roof" + (char) ('9' + 1) + "0 of 0", 4);
        fault("roof", 4);
        fault("roof ", 5);
        fault("roof 36 of 0", 5);
        fault("roof 1000 of 0", 5);
        fault("roof 4294967296 of 0", 5);
        fault("roof 99999999999999999999999 of 0", 5);
        fault("roof -1 of 0", 5);
        fault("roof of 0", 5);
        fault("roof 0 at 0", 7);
        fault("roof 0 off 0", 7);
        fault("roof 0 of 6", 10);
        fault("roof 0 of 0 0", 12);
        fault("roof 0 of 0 roof", 12);
        fault("roof 0 of 0;", 12);
        fault("roof 0 of 0; ", 13);
        fault("roof 0 of 0;;", 12);
        fault("roof 0 of 0 $", 12);
        fault("roof 0 of 0\n", 11);
        fault("roof 0 of 0; wind 0 1; chimney of 0 at", 38);
        fault("wind", 4);
        fault("wind 0", 6);
        fault("wind 24 1", 5);
        fault("wind 0 5", 7);
        fault("wind 0 ; roof", 7);
        fault("wind 0 1 5", 9);
        fault("wind 0 1; wind 23 1 1", 20);
        fault("wind 0 1 roof", 9);
        fault("baker 0", 6);
        fault("baker of 6", 9);
        fault("baker of 0 0", 11);
        fault("baker of 0 at 36", 14);
        fault("baker of 0 at 0 high", 20);
        fault("baker of 0 at 0 high 10", 21);
        fault("baker of 0 at 0 fire 100", 21);
        fault("baker of 0 at 0 fire 1 high 1", 23);
        fault("baker of 0 at 0 high 1 high 1", 23);
        fault("baker of 0 at 0 from 24 long 1", 21);
        fault("baker of 0 at 0 from 1", 22);
        fault("baker of 0 at 0 from 1; ", 22);
        fault("baker of 0 at 0 long 1", 16);
        fault("baker of 0 at 0 from 1 long 25", 28);
        fault("baker of 0 at 0 from 1 long 2 fire 3", 30);
        fault("roof 0 of 0" + (char) 160, 11);
        fault((char) 255 + "", 0);
    }

    private static void promise32Full() {
        SmokeRoofs x = new SmokeRoofs();
        due("32: six", Check.read(x, "tar of0at0;tar of0at0;tar of0at0;tar of0at0;tar of0at0;tar of0at0"), 6);
        due("32: the ninth", Check.read(x, "tar of0at1;tar of0at1; tar of 9"), -24);
        due("32: none of them", x.count(1), 6);
        due("32: up to eight", Check.read(x, "tar of0at1;tar of0at2;roof 3 of 3"), 3);
        due("32: by their order", x.of(7, 2), 2);
        due("32: eight are there", Check.read(x, "kiln"), -1);
        due("32: roofs may still be told", Check.read(x, "roof 4 of 4"), 1);
    }

    private static void promise33and34() {
        SmokeRoofs x = new SmokeRoofs();
        due("33: none yet", x.hold(0, 0), B);
        due("33: nothing", x.hold(9, -1), 1);
        for (int kind = 0; kind < 7; kind++) {
            x.chimney(kind, 0, 0);
            due("33: holds", x.hold(kind, kind), 1);
        }
        int[] above = {-1, 0, 0, 0, 1, 2, 3};
        for (int spot = 0; spot < 7; spot++) {
            for (int kind = 0; kind < 7; kind++) {
                boolean is = kind == spot || kind == above[spot] || kind == 0;
                due("34: " + spot + " as " + kind, x.as(spot, kind), is ? spot : Check.KIND);
            }
        }
        x.change(0, 0, 6);
        due("34: as it is now", x.as(0, 3), 0);
        due("33: spots", x.count(7), 7);
        due("33: let go", x.hold(0, -1), 1);
        due("34: nothing", x.as(0, 0), Check.MISSING);
        due("34: BEYOND before MISSING", x.as(0, 7), B);
        due("34: kind -1", x.as(1, -1), B);
        due("34: spot 10", x.as(10, 0), B);
        due("34: spot -1", x.as(-1, 0), B);
        due("33: spot 10", x.hold(10, 0), B);
        due("33: spot -1", x.hold(-1, 0), B);
        due("33: chimney 7", x.hold(1, 7), B);
        due("33: chimney -2", x.hold(1, -2), B);
        due("33: still holds", x.as(1, 1), 1);
    }

    private static void promise35() {
        SmokeRoofs x = new SmokeRoofs();
        due("35: forty", x.sheet(3, 8, 40), 40);
        due("35: empty", x.sheet(0, 16, 0), 0);
        due("35: empty is not missing", x.load(0), 0);
        due("35: missing", x.sheet(3, 0, 40), 0);
        due("35: is missing", x.load(3), Check.MISSING);
        due("35: no such sheet", x.sheet(4, 8, 1), B);
        due("35: sheet -1", x.sheet(-1, 8, -1), B);
        due("35: other bits", x.sheet(0, 7, -1), B);
        due("35: 64 bits", x.sheet(0, 64, 1), B);
        due("35: below 0", x.sheet(0, 8, -1), Check.SIZE);
        due("35: below 0 with bits 0", x.sheet(0, 0, MIN), Check.SIZE);
        due("35: above 40", x.sheet(0, 8, 41), B);
        due("35: above 40 with bits 0", x.sheet(0, 0, 41), B);
        due("35: still there", x.load(0), 0);
        x.sheet(0, 32, 2);
        x.write(0, 0, 9);
        x.sheet(0, 32, 2);
        due("35: all 0", x.load(0), 2);
    }

    /** Number i of a sheet, seen through load() as a wind, or -1 where it is none. */
    private static int seen(SmokeRoofs x, int s, int i) {
        return x.load(s) > i ? x.wind(i, 0) : -1;
    }

    private static void promise36() {
        SmokeRoofs x = new SmokeRoofs();
        due("36: no such sheet", x.write(4, 0, 0), B);
        due("36: missing before no such number", x.write(0, -1, 0), Check.MISSING);
        x.sheet(0, 8, 3);
        due("36: no such number", x.write(0, 3, 0), B);
        due("36: number -1", x.write(0, -1, 0), B);
        due("36: written", x.write(0, 2, 256 + 4), 1);
        due("36: the lowest 8 bits", seen(x, 0, 2), 4);
        x.write(0, 2, 255);
        due("36: with their sign", seen(x, 0, 2), -1);
        x.sheet(0, 16, 3);
        x.write(0, 0, 65536 + 3);
        due("36: the lowest 16 bits", seen(x, 0, 0), 3);
        x.write(0, 0, 256 + 3);
        due("36: all 16 bits", seen(x, 0, 0), -1);
        x.sheet(0, 32, 1);
        x.write(0, 0, 65536 + 3);
        due("36: all 32 bits", seen(x, 0, 0), -1);
        SmokeRoofs y = smoky(0);
        y.change(0, 0, 6);
        y.change(0, 4, 99);
        y.change(0, 3, 0);
        int parts = y.ahead(3, 0) - y.ahead(2, 0);
        y.sheet(0, 8, 3);
        y.sheet(1, 32, 3);
        for (int i = 0; i < 3; i++) {
            int v = y.ahead(i + 1, 0) - y.ahead(i, 0);
            y.write(0, i, v);
            y.write(1, i, v);
        }
        Check.holds("36: " + parts + " parts are more than 8 bits hold", parts > 127);
        due("36: 32 bits tell them", y.judge(1), 0);
        Check.holds("36: 8 bits do not", y.judge(0) != 0);
    }

    private static void promise37() {
        SmokeRoofs x = new SmokeRoofs();
        due("37: no such sheet", x.copy(4, 0, 0, 0, 0), B);
        due("37: no such other", x.copy(0, 0, -1, 0, 0), B);
        x.sheet(0, 8, 5);
        due("37: the other is missing", x.copy(0, -1, 1, 0, 0), Check.MISSING);
        due("37: the first is missing", x.copy(1, 0, 0, 0, 0), Check.MISSING);
        x.sheet(1, 16, 5);
        due("37: other bits", x.copy(0, -1, 1, 0, 0), Check.KIND);
        x.sheet(1, 8, 3);
        for (int i = 0; i < 5; i++) {
            x.write(0, i, i);
        }
        int[][] wrong = {{-1, 0, 1}, {0, -1, 1}, {0, 0, -1}, {0, 0, 4}, {3, 0, 3}, {0, 2, 2}, {6, 0, 0}, {0, 4, 0},
            {MAX, 0, 1}, {1, 0, MAX}, {0, MAX, MAX}};
        for (int[] w : wrong) {
            due("37: wrong", x.copy(0, w[0], 1, w[1], w[2]), B);
        }
        due("37: none, at the ends", x.copy(0, 5, 1, 3, 0), 0);
        due("37: three", x.copy(0, 2, 1, 0, 3), 3);
        x.load(1);
        due("37: came", x.wind(0, 0) * 100 + x.wind(1, 0) * 10 + x.wind(2, 0), 234);
        due("37: on itself", x.copy(0, 0, 0, 1, 4), 4);
        x.load(0);
        due("37: as they all were", x.wind(1, 0) * 1000 + x.wind(2, 0) * 100 + x.wind(3, 0) * 10 + x.wind(4, 0), 123);
        due("37: back", x.copy(0, 1, 0, 0, 4), 4);
        x.load(0);
        due("37: down", x.wind(0, 0) * 1000 + x.wind(1, 0) * 100 + x.wind(2, 0) * 10 + x.wind(3, 0), 123);
    }

    private static void promise38() {
        SmokeRoofs x = new SmokeRoofs();
        due("38: no such sheet", x.load(4), B);
        due("38: sheet -1", x.load(-1), B);
        due("38: missing", x.load(0), Check.MISSING);
        x.sheet(0, 8, 40);
        for (int i = 0; i < 40; i++) {
            x.write(0, i, 3);
        }
        due("38: no more clocks", x.load(0), 24);
        due("38: wind", x.wind(23, 0), 3);
        x.write(0, 2, 5);
        x.write(0, 1, 4);
        due("38: up to the wrong one", x.load(0), 2);
        due("38: came", x.wind(1, 0), 4);
        due("38: as it was", x.wind(2, 0), 3);
        x.write(0, 0, -1);
        due("38: none", x.load(0), 0);
        x.sheet(0, 8, 3);
        due("38: all three", x.load(0), 3);
    }

    private static void promise39() {
        SmokeRoofs x = smoky(0);
        due("39: no such sheet", x.judge(4), B);
        due("39: sheet -1", x.judge(-1), B);
        due("39: missing", x.judge(0), Check.MISSING);
        x.sheet(0, 16, 0);
        due("39: nothing to judge", x.judge(0), 0);
        x.sheet(0, 16, 6);
        due("39: the first", x.judge(0), 1);
        int[] each = {5, 9, 11, 13, 14, 14};
        for (int i = 0; i < 6; i++) {
            x.write(0, i, each[i]);
        }
        due("39: all", x.judge(0), 0);
        x.write(0, 5, 13);
        due("39: the last", x.judge(0), 6);
        x.write(0, 2, 0);
        due("39: the first that isn't", x.judge(0), 3);
        due("39: nothing changed", x.count(0) + x.count(4), 0);
        x.chimney(0, 1, 6);
        due("39: of all chimneys", x.judge(0), 1);
    }

    private static void promise40to42() {
        SmokeRoofs x = smoky(2);
        due("41: nothing kept", x.undo(), Check.NONE);
        due("42: nothing kept", x.tear(), 0);
        x.roof(1, 1);
        x.hold(3, 0);
        x.hours(3);
        due("40: kept", x.image(), 1);
        int[] before = look(x);
        x.chimney(1, 1, 1);
        x.change(1, 5, 9);
        x.hold(3, 1);
        x.hold(4, 1);
        x.roof(1, 2);
        x.roof(20, 2);
        x.wind(3, 1);
        x.seed(5);
        x.change(0, 3, 7);
        x.hours(4);
        x.wind(7, 0);
        x.hours(2);
        x.strike();
        due("41: came down", x.parts(1, 1) > 0 ? 1 : 0, 1);
        Check.feed(x, "roof 5 of 5");
        x.sheet(2, 8, 2);
        int told = x.status(-1);
        due("41: HOUR", x.undo(), 3);
        int[] after = look(x);
        for (int i = 0; i < before.length; i++) {
            due("41: thing " + i, after[i], before[i]);
        }
        due("41: findings stay told", x.status(-1), told);
        due("41: a new chimney", x.chimney(4, 2, 3), 1);
        int[] first = {4, 2, 3, 1, 20, 0, 24};
        for (int what = 0; what < 7; what++) {
            due("41: is new in " + what, x.of(1, what), first[what]);
        }
        due("41: and clean", x.air(1, -1) + x.settled(1, -1) + x.parts(1, 0) + x.parts(1, 1) + x.parts(1, 2), 0);
        x.undo();
        due("41: the tape stays", x.text(), 1);
        due("41: sheets stay", x.load(2), 2);
        x.hours(1);
        due("41: it stays", x.undo(), 3);
        x.hours(2);
        x.image();
        x.hours(1);
        due("41: the latest", x.undo(), 5);
        due("42: was kept", x.tear(), 1);
        due("42: no more", x.tear(), 0);
        due("41: none", x.undo(), Check.NONE);
        due("41: as it was", x.count(0), 5);
        due("40: again", x.image(), 1);
        due("41: again", x.undo(), 5);
    }

    private static int[] look(SmokeRoofs x) {
        int roof = x.roof(1, -1);
        x.roof(1, roof);
        int wind = x.wind(3, 0);
        x.wind(3, wind);
        return new int[] {x.count(0), x.count(1), x.count(2), x.count(3), x.count(4), x.count(6), x.count(7),
            x.book(0), x.book(1), x.of(0, 3), x.as(3, 0), x.parts(0, 1), x.parts(0, 2), x.air(0, 2), x.settled(0, 2), roof, wind};
    }

    private static void promise43() {
        SmokeRoofs x = smoky(0);
        x.roof(0, 0);
        x.roof(35, 5);
        x.roof(34, 5);
        x.chimney(0, 1, 0);
        x.hours(2);
        x.feed(0, 3);
        x.hold(9, 1);
        x.hold(0, 0);
        x.hold(5, 0);
        int[] all = {2, 2, 3, 52, 28, 3, 1, 3};
        for (int what = 0; what < 8; what++) {
            due("43: what " + what, x.count(what), all[what]);
        }
        due("43: what 8", x.count(8), B);
        due("43: what -1", x.count(-1), B);
        due("43: told", x.status(0), 2);
    }

    private static void promise44() {
        SmokeRoofs x = new SmokeRoofs();
        x.roof(36, 0);
        x.image();
        for (int i = 0; i < 8; i++) {
            x.chimney(0, 0, 0);
        }
        x.chimney(0, 0, 0);
        x.hold(0, 0);
        x.as(0, 1);
        x.as(0, 2);
        x.as(0, 3);
        x.clear(7);
        x.hours(1);
        x.wind(0, 3);
        x.change(0, 3, 9);
        x.gains(0, 1);
        x.reaches(0, 0);
        x.reaches(0, 1);
        x.load(0);
        x.load(1);
        x.load(2);
        x.load(3);
        x.sheet(0, 8, -1);
        int[] each = {1, 1, 3, 2, 1, 4, 1};
        for (int which = 0; which < 7; which++) {
            due("44: which " + which, x.status(which), each[which]);
        }
        due("44: all", x.status(-1), 13);
        due("44: which 7", x.status(7), B);
        due("44: which -2", x.status(-2), B);
        due("44: counted from then on", x.status(0), 3);
        due("44: all then", x.status(-1), 15);
        x.undo();
        due("44: undo takes none back", x.status(-1), 15);
        x.undo();
        x.tear();
        x.undo();
        due("44: one more", x.status(-1), 16);
    }

    /** STATE, where HOUR would be above 9999, comes behind BEYOND and ahead of NONE. */
    private static void theLastHours() {
        SmokeRoofs x = Towns.atHour(9927);
        x.chimney(0, 0, 0);
        due("16: 9927", x.clear(0), 0);
        due("17: 9927", x.reaches(0, 0), Check.NONE);
        due("15: 72 from 9927", x.ahead(72, 0), 0);
        x.hours(1);
        due("16: 9928", x.clear(0), Check.STATE);
        due("16: BEYOND first", x.clear(1), B);
        due("17: 9928", x.reaches(0, 0), Check.STATE);
        due("17: BEYOND first", x.reaches(0, 6), B);
        due("15: 72 from 9928", x.ahead(72, 0), Check.STATE);
        due("15: 71 from 9928", x.ahead(71, 0), 0);
        due("15: BEYOND first", x.ahead(72, 15), B);
        x.hours(47);
        due("18: 24 from 9975", x.place(0, 24), 0);
        due("19: 24 from 9975", x.highFor(0, 24), 0);
        due("20: 24 from 9975", x.gains(0, 24), 0);
        due("21: 24 from 9975", x.when(0, 0, 24), 0);
        due("22: 24 from 9975", x.build(0, 24), 0);
        due("24: 24 from 9975", x.worst(0, 24), 0);
        x.hours(1);
        due("18: 24 from 9976", x.place(0, 24), Check.STATE);
        due("19: 24 from 9976", x.highFor(0, 24), Check.STATE);
        due("20: 24 from 9976", x.gains(0, 24), Check.STATE);
        due("21: 24 from 9976", x.when(0, 0, 24), Check.STATE);
        due("22: 24 from 9976", x.build(0, 24), Check.STATE);
        due("24: 24 from 9976", x.worst(0, 24), Check.STATE);
        x.hours(11);
        due("23: 12 from 9987", x.washing(0, 12), 1);
        x.sheet(0, 8, 12);
        due("39: 12 from 9987", x.judge(0), 0);
        x.hours(1);
        due("23: 12 from 9988", x.washing(0, 12), Check.STATE);
        due("23: BEYOND first", x.washing(0, 13), B);
        due("39: 12 from 9988", x.judge(0), Check.STATE);
        due("39: MISSING first", x.judge(1), Check.MISSING);
        SmokeRoofs none = Towns.atHour(9999);
        due("24: STATE before NONE", none.worst(0, 1), Check.STATE);
        for (int cell = 0; cell < 36; cell++) {
            none.roof(cell, 0);
        }
        due("22: STATE before NONE", none.build(0, 1), Check.STATE);
        due("15: 0 from 9999", none.ahead(0, 0), 0);
        none.chimney(0, 0, 0);
        due("26: asks no hours", none.canHave(0, 0, 0, 12), 0);
        due("5: clock of 9999", none.of(0, 9), 20);
    }

    /** Eight chimneys, a sheet of forty, a tape of 120: nothing reaches past the last of them. */
    private static void theFullTown() {
        SmokeRoofs x = Towns.windy(2);
        x.roof(1, 1);
        for (int i = 0; i < 8; i++) {
            x.chimney(2, 0, 0);
        }
        x.image();
        due("14: full", x.hours(2), 8 * 14);
        due("9: full", x.air(-1, -1), 8 * 26);
        due("10: full", x.settled(-1, -1), 8 * 14);
        due("12: full", x.thickest(), 1);
        due("15: full", x.ahead(1, 10), 8 * 5);
        due("22: full", x.build(2, 1), 2);
        due("23: full", x.washing(1, 1), 0);
        due("23: full, another", x.washing(2, 1), 255);
        due("24: full", x.worst(1, 1), 0);
        due("25: full", x.over(2), 255);
        due("26: full", x.canHave(2, 0, 1, 1), 255);
        x.sheet(3, 32, 40);
        for (int i = 0; i < 40; i++) {
            x.write(3, i, x.ahead(i + 1, 0) - x.ahead(i, 0));
        }
        due("39: forty", x.judge(3), 0);
        x.write(3, 39, -1);
        due("39: the fortieth", x.judge(3), 40);
        due("37: forty", x.copy(3, 0, 3, 0, 40), 40);
        due("41: full", x.undo(), 0);
        StringBuilder blanks = new StringBuilder();
        for (int i = 0; i < 120; i++) {
            blanks.append(' ');
        }
        due("32: 120 blanks", Check.read(x, blanks.toString()), -121);
        blanks.replace(60, 69, "roof0of0;");
        blanks.replace(111, 120, " roof0of1");
        due("32: 120 bytes", Check.read(x, blanks.toString()), 2);
        due("32: the last of them", x.roof(0, -1), 1);
        due("32: 120 signs", Check.read(x, blanks.toString().replaceAll(".", ";")), -1);
        due("32: 120 letters", Check.read(x, blanks.toString().replaceAll(".", "r")), -1);
        due("32: 120 digits", Check.read(x, "roof" + blanks.toString().substring(4).replaceAll(".", "9")), -5);
    }
}
