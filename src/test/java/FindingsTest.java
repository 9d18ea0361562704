/**
 * Each finding of each call, in the order in which the promise's words ask them, and that a call
 * which answers one changes nothing but status(); and that what only asks changes nothing at all.
 */
public final class FindingsTest {
    private static final int B = Check.BEYOND;
    private static final int END = Towns.LAST_HOUR;
    private static final int MAX = Integer.MAX_VALUE;
    private static final int MIN = Integer.MIN_VALUE;

    private FindingsTest() {
    }

    public static void main(String[] args) {
        numbers();
        town();
        changes();
        air();
        hours();
        endOfHours();
        choosing();
        noneToChoose();
        lateChoosing();
        whoDidIt();
        tape();
        spots();
        sheets();
        copies();
        readers();
        images();
        asking();
        askingSheets();
        Check.end();
    }

    private static void full(String what, Towns.Call call, int finding) {
        Twins.refused(what, Towns::full, call, finding);
    }

    private static void empty(String what, Towns.Call call, int finding) {
        Twins.refused(what + " (a new object)", Towns::empty, call, finding);
    }

    private static void late(String what, int hour, Towns.Call call, int finding) {
        Twins.refused(what + " at " + hour, () -> Towns.late(hour), call, finding);
    }

    /** What is allowed in the very last hours, so that STATE comes no earlier than it should. */
    private static void fits(String what, int hour, Towns.Call call) {
        int answer = call.on(Towns.late(hour));
        Check.holds(what + " fits at " + hour, answer != Check.STATE && answer != B);
    }

    /** The numbers that the document writes out, and what status() counts them as. */
    private static void numbers() {
        SmokeRoofs x = Towns.full();
        int[] got = {x.book(6), x.chimney(0, 0, 0), x.as(0, 1), Towns.empty().undo(),
            x.gains(3, 1), x.load(2), x.sheet(0, 8, -1)};
        for (int i = 0; i < 7; i++) {
            Check.due("Terms: finding " + i, got[i], -1000001 - i);
        }
    }

    private static void town() {
        full("2: roof(36)", x -> x.roof(36, 0), B);
        full("2: roof(-1)", x -> x.roof(-1, 0), B);
        full("2: owner 6", x -> x.roof(5, 6), B);
        full("2: owner -2", x -> x.roof(5, -2), B);
        full("3: clock 24", x -> x.wind(24, 1), B);
        full("3: clock -1", x -> x.wind(-1, 1), B);
        full("3: wind 5", x -> x.wind(1, 5), B);
        full("3: wind -1", x -> x.wind(1, -1), B);
        full("4: all eight taken", x -> x.chimney(0, 0, 0), Check.FULL);
        full("4: kind 7, BEYOND ahead of FULL", x -> x.chimney(7, 0, 0), B);
        full("4: kind -1, BEYOND ahead of FULL", x -> x.chimney(-1, 0, 0), B);
        full("4: owner 6, BEYOND ahead of FULL", x -> x.chimney(0, 6, 0), B);
        full("4: owner -1, BEYOND ahead of FULL", x -> x.chimney(0, -1, 0), B);
        full("4: cell 36, BEYOND ahead of FULL", x -> x.chimney(0, 0, 36), B);
        full("4: cell -1, BEYOND ahead of FULL", x -> x.chimney(0, 0, -1), B);
        empty("4: kind 7", x -> x.chimney(7, 0, 0), B);
        empty("4: owner 6", x -> x.chimney(0, 6, 0), B);
        empty("4: cell 36", x -> x.chimney(0, 0, 36), B);
        full("5: chimney 8", x -> x.of(8, 0), B);
        full("5: chimney -1", x -> x.of(-1, 0), B);
        full("5: what 10", x -> x.of(0, 10), B);
        full("5: what -1", x -> x.of(0, -1), B);
        empty("5: no chimney", x -> x.of(0, 0), B);
        full("7: owner 6", x -> x.book(6), B);
        full("7: owner -1", x -> x.book(-1), B);
    }

    private static void changes() {
        full("6: chimney 8", x -> x.change(8, 0, 0), B);
        full("6: chimney -1", x -> x.change(-1, 0, 0), B);
        full("6: what 7", x -> x.change(0, 7, 0), B);
        full("6: what -1", x -> x.change(0, -1, 0), B);
        empty("6: no chimney", x -> x.change(0, 3, 5), B);
        int[] most = {6, 5, 35, 9, 99, 23, 24};
        for (int what = 0; what < 7; what++) {
            int w = what;
            full("6: too much of " + what, x -> x.change(5, w, most[w] + 1), B);
            full("6: too little of " + what, x -> x.change(5, w, -1), B);
        }
    }

    private static void air() {
        full("9: chimney 8", x -> x.air(8, 0), B);
        full("9: chimney -2", x -> x.air(-2, 0), B);
        full("9: cell 36", x -> x.air(0, 36), B);
        full("9: cell -2", x -> x.air(0, -2), B);
        empty("9: no chimney", x -> x.air(0, 0), B);
        full("10: chimney 8", x -> x.settled(8, 0), B);
        full("10: chimney -2", x -> x.settled(-2, 0), B);
        full("10: cell 36", x -> x.settled(0, 36), B);
        full("10: cell -2", x -> x.settled(0, -2), B);
        empty("10: no chimney", x -> x.settled(0, 0), B);
        full("11: chimney 8", x -> x.parts(8, 0), B);
        full("11: chimney -1", x -> x.parts(-1, 0), B);
        full("11: what 3", x -> x.parts(0, 3), B);
        full("11: what -1", x -> x.parts(0, -1), B);
        empty("11: no chimney", x -> x.parts(0, 0), B);
        full("13: chimney 8", x -> x.touched(8), B);
        full("13: chimney -1", x -> x.touched(-1), B);
        empty("13: no chimney", x -> x.touched(0), B);
    }

    private static void hours() {
        full("14: 0 hours", x -> x.hours(0), B);
        full("14: 49 hours", x -> x.hours(49), B);
        full("14: -1 hours", x -> x.hours(-1), B);
        full("15: 73 hours", x -> x.ahead(73, 0), B);
        full("15: -1 hours", x -> x.ahead(-1, 0), B);
        full("15: what 15", x -> x.ahead(1, 15), B);
        full("15: what -1", x -> x.ahead(1, -1), B);
        full("16: chimney 8", x -> x.clear(8), B);
        full("16: chimney -1", x -> x.clear(-1), B);
        empty("16: no chimney", x -> x.clear(0), B);
        Twins.refused("16: never clear", Towns::upAndDown, x -> x.clear(0), Check.NONE);
        full("17: chimney 8", x -> x.reaches(8, 0), B);
        full("17: chimney -1", x -> x.reaches(-1, 0), B);
        full("17: owner 6", x -> x.reaches(0, 6), B);
        full("17: owner -1", x -> x.reaches(0, -1), B);
        empty("17: no chimney", x -> x.reaches(0, 0), B);
        Twins.refused("17: no roof", Towns::upAndDown, x -> x.reaches(0, 0), Check.NONE);
    }

    private static void endOfHours() {
        late("14: 48 hours", END - 47, x -> x.hours(48), Check.STATE);
        fits("14: 48 hours", END - 48, x -> x.hours(48));
        late("14: one hour", END, x -> x.hours(1), Check.STATE);
        fits("14: one hour", END - 1, x -> x.hours(1));
        late("14: 0 hours, BEYOND ahead of STATE", END, x -> x.hours(0), B);
        late("14: 49 hours, BEYOND ahead of STATE", END, x -> x.hours(49), B);
        late("14: as many as can be told", END, x -> x.hours(MAX), B);
        late("15: 72 hours", END - 71, x -> x.ahead(72, 0), Check.STATE);
        fits("15: 72 hours", END - 72, x -> x.ahead(72, 0));
        for (int what = 0; what < 15; what++) {
            int w = what;
            Check.due("15: one hour, what " + what, Towns.late(END).ahead(1, w), Check.STATE);
            fits("15: no hour, what " + what, END, x -> x.ahead(0, w));
        }
        late("15: one hour", END, x -> x.ahead(1, 14), Check.STATE);
        late("15: what 15, BEYOND ahead of STATE", END, x -> x.ahead(1, 15), B);
        late("15: what -1, BEYOND ahead of STATE", END, x -> x.ahead(1, -1), B);
        late("15: 73 hours, BEYOND ahead of STATE", END, x -> x.ahead(73, 0), B);
        late("15: -1 hours, BEYOND ahead of STATE", END, x -> x.ahead(-1, 0), B);
        late("16: above 9927", 9928, x -> x.clear(0), Check.STATE);
        fits("16: not above 9927", 9927, x -> x.clear(0));
        late("16: chimney 3, BEYOND ahead of STATE", 9928, x -> x.clear(3), B);
        Twins.refused("16: STATE, also where nothing is in the air", FindingsTest::lateAndClear, x -> x.clear(0),
            Check.STATE);
        Twins.refused("16: STATE ahead of NONE", FindingsTest::lateAndNever, x -> x.clear(0), Check.STATE);
        late("17: above 9927", 9928, x -> x.reaches(0, 1), Check.STATE);
        fits("17: not above 9927", 9927, x -> x.reaches(0, 1));
        late("17: chimney 3, BEYOND ahead of STATE", 9928, x -> x.reaches(3, 0), B);
        late("17: owner 6, BEYOND ahead of STATE", 9928, x -> x.reaches(0, 6), B);
        Twins.refused("17: STATE ahead of NONE", FindingsTest::lateAndNever, x -> x.reaches(0, 5), Check.STATE);
    }

    private static SmokeRoofs lateAndClear() {
        SmokeRoofs x = Towns.atHour(9928);
        x.chimney(0, 0, 0);
        return x;
    }

    private static SmokeRoofs lateAndNever() {
        SmokeRoofs x = Towns.atHour(9927);
        for (int clock = 0; clock < 24; clock++) {
            x.wind(clock, clock % 2 == 0 ? 3 : 1);
        }
        x.chimney(0, 0, 14);
        x.hours(1);
        return x;
    }

    private static void choosing() {
        full("18: chimney 8", x -> x.place(8, 1), B);
        full("18: chimney -1", x -> x.place(-1, 1), B);
        full("18: 0 hours", x -> x.place(0, 0), B);
        full("18: 25 hours", x -> x.place(0, 25), B);
        full("19: chimney 8", x -> x.highFor(8, 1), B);
        full("19: chimney -1", x -> x.highFor(-1, 1), B);
        full("19: 0 hours", x -> x.highFor(0, 0), B);
        full("19: 25 hours", x -> x.highFor(0, 25), B);
        full("20: chimney 8", x -> x.gains(8, 1), B);
        full("20: chimney -1", x -> x.gains(-1, 1), B);
        full("20: 0 hours", x -> x.gains(0, 0), B);
        full("20: 25 hours", x -> x.gains(0, 25), B);
        full("20: HIGH is 9", x -> x.gains(3, 1), Check.STATE);
        full("20: HIGH is 9 and 0 hours, BEYOND ahead of STATE", x -> x.gains(3, 0), B);
        full("20: HIGH is 9 and 25 hours, BEYOND ahead of STATE", x -> x.gains(3, 25), B);
        full("21: chimney 8", x -> x.when(8, 0, 1), B);
        full("21: chimney -1", x -> x.when(-1, 0, 1), B);
        full("21: owner 6", x -> x.when(0, 6, 1), B);
        full("21: owner -1", x -> x.when(0, -1, 1), B);
        full("21: 0 hours", x -> x.when(0, 0, 0), B);
        full("21: 25 hours", x -> x.when(0, 0, 25), B);
        full("22: owner 6", x -> x.build(6, 1), B);
        full("22: owner -1", x -> x.build(-1, 1), B);
        full("22: 0 hours", x -> x.build(0, 0), B);
        full("22: 25 hours", x -> x.build(0, 25), B);
        full("23: owner 6", x -> x.washing(6, 1), B);
        full("23: owner -1", x -> x.washing(-1, 1), B);
        full("23: 0 hours", x -> x.washing(0, 0), B);
        full("23: 13 hours", x -> x.washing(0, 13), B);
        full("24: owner 6", x -> x.worst(6, 1), B);
        full("24: owner -1", x -> x.worst(-1, 1), B);
        full("24: 0 hours", x -> x.worst(0, 0), B);
        full("24: 25 hours", x -> x.worst(0, 25), B);
    }

    private static void noneToChoose() {
        empty("18: no chimney", x -> x.place(0, 1), B);
        empty("19: no chimney", x -> x.highFor(0, 1), B);
        empty("20: no chimney", x -> x.gains(0, 1), B);
        empty("21: no chimney", x -> x.when(0, 0, 1), B);
        Twins.refused("22: no cell without a roof", Towns::allRoofed, x -> x.build(0, 24), Check.NONE);
        Twins.refused("22: BEYOND ahead of NONE, owner", Towns::allRoofed, x -> x.build(6, 24), B);
        Twins.refused("22: BEYOND ahead of NONE, hours", Towns::allRoofed, x -> x.build(0, 25), B);
        Twins.refused("23: it is in the air", Towns::dirty, x -> x.washing(1, 1), Check.NONE);
        Twins.refused("23: BEYOND ahead of NONE, hours", Towns::dirty, x -> x.washing(1, 13), B);
        Twins.refused("23: BEYOND ahead of NONE, owner", Towns::dirty, x -> x.washing(-1, 1), B);
        empty("24: there are no chimneys", x -> x.worst(0, 24), Check.NONE);
        empty("24: BEYOND ahead of NONE, owner", x -> x.worst(6, 1), B);
        empty("24: BEYOND ahead of NONE, hours", x -> x.worst(0, 25), B);
        empty("24: BEYOND ahead of NONE, no hours", x -> x.worst(0, 0), B);
    }

    private static void lateChoosing() {
        for (int n : new int[] {1, 24}) {
            lateByHours(n, "18: place", x -> x.place(0, n));
            lateByHours(n, "19: highFor", x -> x.highFor(0, n));
            lateByHours(n, "20: gains", x -> x.gains(0, n));
            lateByHours(n, "21: when", x -> x.when(0, 0, n));
            lateByHours(n, "22: build", x -> x.build(0, n));
            lateByHours(n, "24: worst", x -> x.worst(0, n));
        }
        for (int n : new int[] {1, 12}) {
            lateByHours(n, "23: washing", x -> x.washing(5, n));
        }
        late("18: BEYOND ahead of STATE", END, x -> x.place(3, 1), B);
        late("18: 25, BEYOND ahead of STATE", END, x -> x.place(0, 25), B);
        late("19: BEYOND ahead of STATE", END, x -> x.highFor(3, 1), B);
        late("19: 25, BEYOND ahead of STATE", END, x -> x.highFor(0, 25), B);
        late("20: BEYOND ahead of STATE", END, x -> x.gains(3, 1), B);
        late("20: 25, BEYOND ahead of STATE", END, x -> x.gains(0, 25), B);
        late("20: STATE for two reasons is one", END, x -> x.gains(2, 1), Check.STATE);
        late("21: BEYOND ahead of STATE", END, x -> x.when(3, 0, 1), B);
        late("21: owner 6, BEYOND ahead of STATE", END, x -> x.when(0, 6, 1), B);
        late("21: 25, BEYOND ahead of STATE", END, x -> x.when(0, 0, 25), B);
        late("22: owner 6, BEYOND ahead of STATE", END, x -> x.build(6, 1), B);
        late("22: 25, BEYOND ahead of STATE", END, x -> x.build(0, 25), B);
        late("23: owner 6, BEYOND ahead of STATE", END, x -> x.washing(6, 1), B);
        late("23: 13, BEYOND ahead of STATE", END, x -> x.washing(0, 13), B);
        late("24: owner 6, BEYOND ahead of STATE", END, x -> x.worst(6, 1), B);
        late("24: 25, BEYOND ahead of STATE", END, x -> x.worst(0, 25), B);
        Twins.refused("22: STATE ahead of NONE", FindingsTest::lateAndRoofed, x -> x.build(0, 1), Check.STATE);
        Twins.refused("23: STATE ahead of NONE", FindingsTest::lateAndDirty, x -> x.washing(1, 2), Check.STATE);
        Check.due("23: NONE in the last hour", lateAndDirty().washing(1, 1), Check.NONE);
        Twins.refused("24: STATE ahead of NONE", () -> Towns.atHour(END), x -> x.worst(0, 1), Check.STATE);
        Check.due("24: NONE in the last hour", Towns.atHour(END - 1).worst(0, 1), Check.NONE);
    }

    private static void lateByHours(int n, String what, Towns.Call call) {
        late(what + " of " + n, END - n + 1, call, Check.STATE);
        fits(what + " of " + n, END - n, call);
    }

    private static SmokeRoofs lateAndRoofed() {
        SmokeRoofs x = Towns.atHour(END);
        Towns.addRoofs(x);
        return x;
    }

    private static SmokeRoofs lateAndDirty() {
        SmokeRoofs x = Towns.atHour(END - 2);
        for (int clock = 0; clock < 24; clock++) {
            x.wind(clock, 2);
        }
        x.chimney(2, 0, 0);
        x.hours(1);
        x.roof(2, 1);
        return x;
    }

    private static void whoDidIt() {
        full("25: cell 36", x -> x.over(36), B);
        full("25: cell -1", x -> x.over(-1), B);
        full("26: kind 7", x -> x.canHave(7, 0, 0, 1), B);
        full("26: kind -1", x -> x.canHave(-1, 0, 0, 1), B);
        full("26: clock 24", x -> x.canHave(0, 24, 0, 1), B);
        full("26: clock -1", x -> x.canHave(0, -1, 0, 1), B);
        full("26: cell 36", x -> x.canHave(0, 0, 36, 1), B);
        full("26: cell -1", x -> x.canHave(0, 0, -1, 1), B);
        full("26: 0 hours", x -> x.canHave(0, 0, 0, 0), B);
        full("26: 13 hours", x -> x.canHave(0, 0, 0, 13), B);
        full("27: chimney 8", x -> x.clocks(8, 0, 1), B);
        full("27: chimney -1", x -> x.clocks(-1, 0, 1), B);
        full("27: cell 36", x -> x.clocks(0, 36, 1), B);
        full("27: cell -1", x -> x.clocks(0, -1, 1), B);
        full("27: 0 hours", x -> x.clocks(0, 0, 0), B);
        full("27: 13 hours", x -> x.clocks(0, 0, 13), B);
        empty("27: no chimney", x -> x.clocks(0, 0, 1), B);
        full("28: 0 clocks", x -> x.weather(0), B);
        full("28: 25 clocks", x -> x.weather(25), B);
        full("28: below", x -> x.weather(MIN), B);
        fits("26: asks for no hours to come", END, x -> x.canHave(0, 0, 0, 12));
        fits("27: asks for no hours to come", END, x -> x.clocks(0, 0, 12));
    }

    private static void tape() {
        full("30: three bytes where two have room", x -> x.feed('x', 3), Check.FULL);
        full("30: four bytes where two have room", x -> x.feed('x', 4), Check.FULL);
        full("30: n 0", x -> x.feed('x', 0), B);
        full("30: n -1", x -> x.feed('x', -1), B);
        full("30: n 5, BEYOND ahead of FULL", x -> x.feed('x', 5), B);
        full("30: n far, BEYOND ahead of FULL", x -> x.feed('x', MAX), B);
        empty("30: n 0", x -> x.feed('x', 0), B);
        empty("30: n 5", x -> x.feed('x', 5), B);
    }

    private static void spots() {
        full("33: spot 10", x -> x.hold(10, 0), B);
        full("33: spot -1", x -> x.hold(-1, 0), B);
        full("33: chimney 8", x -> x.hold(0, 8), B);
        full("33: chimney -2", x -> x.hold(0, -2), B);
        empty("33: no chimney", x -> x.hold(0, 0), B);
        full("34: spot 10", x -> x.as(10, 0), B);
        full("34: spot -1", x -> x.as(-1, 0), B);
        full("34: kind 7", x -> x.as(0, 7), B);
        full("34: kind -1", x -> x.as(0, -1), B);
        full("34: it holds nothing", x -> x.as(1, 0), Check.MISSING);
        full("34: it holds nothing of any kind", x -> x.as(1, 6), Check.MISSING);
        full("34: kind 7, BEYOND ahead of MISSING", x -> x.as(1, 7), B);
        full("34: kind -1, BEYOND ahead of MISSING", x -> x.as(1, -1), B);
        full("34: a chimney is no baker", x -> x.as(0, 1), Check.KIND);
        full("34: a tar is no forge", x -> x.as(3, 3), Check.KIND);
        full("34: a tanner is no tar", x -> x.as(4, 5), Check.KIND);
        empty("34: nothing", x -> x.as(9, 0), Check.MISSING);
    }

    private static void sheets() {
        full("35: sheet 4", x -> x.sheet(4, 8, 1), B);
        full("35: sheet -1", x -> x.sheet(-1, 8, 1), B);
        full("35: sheet 4, BEYOND ahead of SIZE", x -> x.sheet(4, 8, -1), B);
        full("35: sheet -1, BEYOND ahead of SIZE", x -> x.sheet(-1, 0, -1), B);
        full("35: 7 bits", x -> x.sheet(1, 7, 1), B);
        full("35: 64 bits", x -> x.sheet(1, 64, 1), B);
        full("35: -8 bits", x -> x.sheet(1, -8, 1), B);
        full("35: 24 bits, BEYOND ahead of SIZE", x -> x.sheet(1, 24, -1), B);
        full("35: n -1", x -> x.sheet(1, 8, -1), Check.SIZE);
        full("35: n -1 of 16 bits", x -> x.sheet(1, 16, -1), Check.SIZE);
        full("35: n -1 of 32 bits", x -> x.sheet(1, 32, MIN), Check.SIZE);
        full("35: n -1, also with bits 0", x -> x.sheet(1, 0, -1), Check.SIZE);
        full("35: n -1, of a missing one", x -> x.sheet(2, 0, -1), Check.SIZE);
        full("35: n 41", x -> x.sheet(1, 8, 41), B);
        full("35: n 41 of 32 bits", x -> x.sheet(1, 32, 41), B);
        full("35: n 41, also with bits 0", x -> x.sheet(1, 0, 41), B);
        full("35: n 41, of a missing one", x -> x.sheet(2, 16, 41), B);
        full("36: sheet 4", x -> x.write(4, 0, 1), B);
        full("36: sheet -1", x -> x.write(-1, 0, 1), B);
        full("36: missing", x -> x.write(2, 0, 1), Check.MISSING);
        full("36: MISSING ahead of BEYOND: no such number", x -> x.write(2, -1, 1), Check.MISSING);
        full("36: MISSING ahead of BEYOND: number 40", x -> x.write(2, 40, 1), Check.MISSING);
        full("36: number 5 of 5", x -> x.write(0, 5, 1), B);
        full("36: number 40 of 40", x -> x.write(1, 40, 1), B);
        full("36: number -1", x -> x.write(1, -1, 1), B);
        late("36: number 0 of none", END, x -> x.write(3, 0, 1), B);
        empty("36: missing", x -> x.write(3, 0, 1), Check.MISSING);
    }

    private static void copies() {
        full("37: sheet 4", x -> x.copy(4, 0, 1, 0, 1), B);
        full("37: sheet -1", x -> x.copy(-1, 0, 1, 0, 1), B);
        full("37: to sheet 4", x -> x.copy(1, 0, 4, 0, 1), B);
        full("37: to sheet -1", x -> x.copy(1, 0, -1, 0, 1), B);
        full("37: no such sheet ahead of MISSING", x -> x.copy(2, 0, 4, 0, 1), B);
        full("37: no such sheet (the first) ahead of MISSING", x -> x.copy(4, 0, 2, 0, 1), B);
        full("37: the first is missing", x -> x.copy(2, 0, 1, 0, 1), Check.MISSING);
        full("37: the second is missing", x -> x.copy(1, 0, 2, 0, 1), Check.MISSING);
        full("37: both are missing", x -> x.copy(2, 0, 2, 0, 0), Check.MISSING);
        full("37: MISSING ahead of BEYOND", x -> x.copy(1, -1, 2, -1, -1), Check.MISSING);
        full("37: 8 bits to 16", x -> x.copy(0, 0, 1, 0, 1), Check.KIND);
        full("37: 16 bits to 8", x -> x.copy(1, 0, 0, 0, 1), Check.KIND);
        full("37: 16 bits to 32", x -> x.copy(1, 0, 3, 0, 1), Check.KIND);
        full("37: none of other bits", x -> x.copy(1, 0, 3, 0, 0), Check.KIND);
        full("37: KIND ahead of BEYOND, from", x -> x.copy(0, -1, 1, 0, 1), Check.KIND);
        full("37: KIND ahead of BEYOND, n", x -> x.copy(0, 0, 1, 0, 41), Check.KIND);
        full("37: from -1", x -> x.copy(1, -1, 1, 0, 1), B);
        full("37: to -1", x -> x.copy(1, 0, 1, -1, 1), B);
        full("37: n -1", x -> x.copy(1, 1, 1, 1, -1), B);
        full("37: n 41", x -> x.copy(1, 0, 1, 0, 41), B);
        full("37: one too many from there", x -> x.copy(1, 1, 1, 0, 40), B);
        full("37: one too many to there", x -> x.copy(1, 0, 1, 1, 40), B);
        full("37: from past the end, none", x -> x.copy(1, 41, 1, 0, 0), B);
        full("37: to past the end, none", x -> x.copy(1, 0, 1, 41, 0), B);
        full("37: from and n wrap around", x -> x.copy(1, MAX, 1, 0, 1), B);
        full("37: to and n wrap around", x -> x.copy(1, 0, 1, MAX, 1), B);
        full("37: n wraps around", x -> x.copy(1, 1, 1, 1, MAX), B);
        full("37: far below", x -> x.copy(1, MIN, 1, MIN, MIN), B);
    }

    private static void readers() {
        full("38: sheet 4", x -> x.load(4), B);
        full("38: sheet -1", x -> x.load(-1), B);
        full("38: missing", x -> x.load(2), Check.MISSING);
        empty("38: missing", x -> x.load(0), Check.MISSING);
        full("39: sheet 4", x -> x.judge(4), B);
        full("39: sheet -1", x -> x.judge(-1), B);
        full("39: missing", x -> x.judge(2), Check.MISSING);
        empty("39: missing", x -> x.judge(0), Check.MISSING);
        late("39: one number", END, x -> x.judge(0), Check.STATE);
        fits("39: one number", END - 1, x -> x.judge(0));
        late("39: two numbers, the first of which is wrong", END - 1, x -> x.judge(1), Check.STATE);
        fits("39: two numbers", END - 2, x -> x.judge(1));
        fits("39: no number", END, x -> x.judge(3));
        late("39: sheet 4, BEYOND ahead of STATE", END, x -> x.judge(4), B);
        late("39: MISSING ahead of STATE", END, x -> x.judge(2), Check.MISSING);
        Towns.Call forty = x -> {
            x.sheet(0, 32, 40);
            return x.judge(0);
        };
        fits("39: forty numbers", END - 40, forty);
        Check.due("39: forty numbers at " + (END - 39), forty.on(Towns.late(END - 39)), Check.STATE);
    }

    private static void images() {
        empty("41: nothing is kept", x -> x.undo(), Check.NONE);
        Twins.refused("41: nothing is kept any more", FindingsTest::torn, x -> x.undo(), Check.NONE);
        full("43: what 8", x -> x.count(8), B);
        full("43: what -1", x -> x.count(-1), B);
        full("44: which 7", x -> x.status(7), B);
        full("44: which -2", x -> x.status(-2), B);
        empty("44: which 7", x -> x.status(7), B);
    }

    private static SmokeRoofs torn() {
        SmokeRoofs x = Towns.full();
        x.tear();
        return x;
    }

    private static void asking() {
        SmokeRoofs x = Towns.full();
        unchanged("5: of", y -> y.of(6, 9), x.of(6, 9));
        unchanged("7: book", y -> y.book(2), x.book(2));
        unchanged("9: air", y -> y.air(-1, -1), x.air(-1, -1));
        unchanged("10: settled", y -> y.settled(-1, -1), x.settled(-1, -1));
        unchanged("11: parts", y -> y.parts(5, 1), x.parts(5, 1));
        unchanged("12: thickest", y -> y.thickest(), x.thickest());
        unchanged("13: touched", y -> y.touched(5), x.touched(5));
        for (int what = 0; what < 15; what++) {
            int w = what;
            unchanged("15: ahead " + what, y -> y.ahead(72, w), x.ahead(72, what));
        }
        unchanged("16: clear", y -> y.clear(1), x.clear(1));
        unchanged("17: reaches", y -> y.reaches(2, 4), x.reaches(2, 4));
        unchanged("18: place", y -> y.place(5, 24), x.place(5, 24));
        unchanged("19: highFor", y -> y.highFor(5, 24), x.highFor(5, 24));
        unchanged("20: gains", y -> y.gains(5, 24), x.gains(5, 24));
        unchanged("21: when", y -> y.when(5, 3, 24), x.when(5, 3, 24));
        unchanged("22: build", y -> y.build(3, 24), x.build(3, 24));
        unchanged("23: washing", y -> y.washing(3, 1), x.washing(3, 1));
        unchanged("24: worst", y -> y.worst(3, 24), x.worst(3, 24));
        unchanged("25: over", y -> y.over(14), x.over(14));
        unchanged("26: canHave", y -> y.canHave(0, 20, 14, 12), x.canHave(0, 20, 14, 12));
        unchanged("27: clocks", y -> y.clocks(0, 15, 1), x.clocks(0, 15, 1));
        unchanged("34: as", y -> y.as(3, 2), 5);
        unchanged("43: count", y -> y.count(3), x.count(3));
        unchanged("44: status", y -> y.status(-1), 0);
    }

    private static void askingSheets() {
        unchanged("39: judge", y -> y.judge(1), 1);
        unchanged("37: none", y -> y.copy(1, 40, 1, 40, 0), 0);
        unchanged("37: each on itself", y -> y.copy(1, 0, 1, 0, 40), 40);
        Twins.asked("38: load of none", () -> Towns.late(END), y -> y.load(3), 0);
        Twins.asked("39: judge of none", () -> Towns.late(END), y -> y.judge(3), 0);
        unchanged("35: a missing one is missing", y -> y.sheet(2, 0, 40), 0);
        unchanged("33: nothing, where there is nothing", y -> y.hold(1, -1), 1);
        unchanged("2: the same roof", y -> y.roof(5, 4), 4);
        unchanged("3: the same wind", y -> y.wind(23, 0), 0);
        unchanged("6: the same fire", y -> y.change(0, 4, 99), 99);
        unchanged("29: the same z", y -> y.seed(-5), -5);
        Twins.asked("31: an empty tape", Towns::upAndDown, y -> y.wipe(), 0);
        Twins.asked("42: nothing kept", Towns::upAndDown, y -> y.tear(), 0);
        Twins.asked("8: no books", Towns::upAndDown, y -> y.strike(), 0);
    }

    private static void unchanged(String what, Towns.Call call, int answer) {
        Twins.asked(what, Towns::full, call, answer);
    }
}
