/** Towns that tests begin with. Each takes few calls, so that 512 are enough for what is asked of it. */
final class Towns {
    static final int LAST_HOUR = 9999;

    /** What the tape of full() holds: 118 bytes, a text of roofs and winds. */
    static final String TAPE = "roof 0 of 5; roof 35 of 4;wind 3 1 2 3 4; roof 17 of 3; roof 18 of 2;"
        + "roof 19 of 1; wind 20 1 1 1 1; roof 20 of 0      ";

    private Towns() {
    }

    interface Maker {
        SmokeRoofs make();
    }

    interface Call {
        int on(SmokeRoofs x);
    }

    static SmokeRoofs empty() {
        return new SmokeRoofs();
    }

    /** The wind blows one way at every clock. */
    static SmokeRoofs windy(int v) {
        SmokeRoofs x = new SmokeRoofs();
        for (int clock = 0; clock < 24; clock++) {
            x.wind(clock, v);
        }
        return x;
    }

    /** So many chimneys (of kind 0, of owner 0, on cell 14), wind to the right, two hours gone. */
    static SmokeRoofs with(int chimneys) {
        SmokeRoofs x = windy(2);
        for (int i = 0; i < chimneys; i++) {
            x.chimney(0, 0, 14);
        }
        x.hours(2);
        return x;
    }

    static SmokeRoofs atHour(int hour) {
        SmokeRoofs x = new SmokeRoofs();
        for (int left = hour; left > 0; left -= 48) {
            x.hours(Math.min(left, 48));
        }
        return x;
    }

    /**
     * A tanner of owner 0 on cell 0 and a roof of owner 1 beside it; calm at all clocks but one, at
     * which the wind goes from the one to the other: 5 parts settle then, for which 15 coins are paid.
     */
    static SmokeRoofs onceADay(int clock) {
        SmokeRoofs x = new SmokeRoofs();
        x.wind(clock, 2);
        x.chimney(2, 0, 0);
        x.roof(1, 1);
        return x;
    }

    /** Smoke that goes up and down and never leaves the air. */
    static SmokeRoofs upAndDown() {
        SmokeRoofs x = new SmokeRoofs();
        for (int clock = 0; clock < 24; clock++) {
            x.wind(clock, clock % 2 == 0 ? 3 : 1);
        }
        x.chimney(2, 0, 14);
        x.hours(1);
        return x;
    }

    /**
     * More in the air than is usual: eight high forges that were moved from row to row (of 33
     * parts over a cell none settles with 3 hundredths), all become low kilns, of which 60 settle.
     */
    static SmokeRoofs thick() {
        SmokeRoofs x = new SmokeRoofs();
        for (int clock = 0; clock < 24; clock++) {
            x.wind(clock, clock % 2 == 0 ? 2 : 4);
        }
        for (int i = 0; i < 8; i++) {
            x.chimney(3, 0, 1);
            x.change(i, 3, 9);
            x.change(i, 4, 99);
        }
        for (int i = 0; i < 12; i++) {
            changeAll(x, 2, 6 * (i / 2) + (i % 2 == 0 ? 1 : 3));
            x.hours(4);
        }
        changeAll(x, 2, 1);
        for (int i = 0; i < 3; i++) {
            x.hours(48);
        }
        changeAll(x, 0, 6);
        changeAll(x, 3, 0);
        return x;
    }

    private static void changeAll(SmokeRoofs x, int what, int v) {
        for (int i = 0; i < 8; i++) {
            x.change(i, what, v);
        }
    }

    /** Dirt is in the air beside a roof of owner 1: no set of chimneys can help in the next hour. */
    static SmokeRoofs dirty() {
        SmokeRoofs x = windy(2);
        x.chimney(2, 0, 0);
        x.hours(1);
        x.roof(2, 1);
        return x;
    }

    static SmokeRoofs allRoofed() {
        SmokeRoofs x = with(2);
        addRoofs(x);
        return x;
    }

    static void addRoofs(SmokeRoofs x) {
        for (int cell = 0; cell < 36; cell++) {
            x.roof(cell, cell % 6);
        }
    }

    /**
     * All of everything: eight chimneys, smoke in the air, on roofs, out of the town and down, books,
     * spots, an image of another state, sheets of each sort (2 is missing), a tape with room for two bytes.
     */
    static SmokeRoofs full() {
        SmokeRoofs x = fullSoFar();
        x.image();
        x.hours(5);
        x.roof(5, 4);
        x.wind(1, 1);
        x.change(7, 2, 6);
        x.seed(-5);
        x.hold(4, 2);
        x.hours(3);
        addSheets(x);
        Check.feed(x, TAPE);
        return x;
    }

    /** What full() is like behind undo(). */
    static SmokeRoofs fullAgain() {
        SmokeRoofs x = fullSoFar();
        x.image();
        addSheets(x);
        Check.feed(x, TAPE);
        return x;
    }

    private static SmokeRoofs fullSoFar() {
        SmokeRoofs x = new SmokeRoofs();
        int[] winds = {2, 3, 0, 4, 1, 2, 2, 3, 3, 4, 1, 1, 2, 3, 4, 4, 1, 2, 3, 3, 4, 1, 2, 0};
        for (int clock = 0; clock < 24; clock++) {
            x.wind(clock, winds[clock]);
        }
        for (int i = 0; i < 14; i++) {
            x.roof(5 + 2 * i, i % 6);
        }
        int[] cells = {14, 21, 0, 35, 8, 27, 16, 5};
        for (int i = 0; i < 8; i++) {
            x.chimney(i % 7, i % 6, cells[i]);
            x.change(i, 4, 99 - 7 * i);
        }
        x.change(3, 3, 9);
        x.change(4, 5, 20);
        x.change(4, 6, 13);
        x.hold(0, 0);
        x.hold(3, 5);
        x.hold(9, 7);
        x.hours(7);
        return x;
    }

    private static void addSheets(SmokeRoofs x) {
        x.sheet(0, 8, 5);
        x.sheet(1, 16, 40);
        x.sheet(3, 32, 7);
        for (int i = 0; i < 40; i++) {
            x.write(1, i, (i * i + 1) % 5);
        }
        for (int i = 0; i < 5; i++) {
            x.write(0, i, 4 - i);
        }
        x.write(3, 3, 2);
    }

    /** At one of the last hours: three chimneys (2 is high 9), smoke, books, spots, an image, sheets, a tape. */
    static SmokeRoofs late(int hour) {
        SmokeRoofs x = atHour(hour - 6);
        for (int clock = 0; clock < 24; clock++) {
            x.wind(clock, 1 + clock % 4);
        }
        for (int i = 0; i < 6; i++) {
            x.roof(12 + i, i);
        }
        x.chimney(2, 0, 14);
        x.chimney(4, 1, 15);
        x.chimney(6, 2, 16);
        x.change(2, 3, 9);
        x.hold(2, 1);
        x.hours(3);
        x.image();
        x.hours(3);
        x.sheet(0, 8, 1);
        x.sheet(1, 16, 2);
        x.sheet(3, 32, 0);
        x.write(1, 1, 3);
        Check.feed(x, "roof 1 of 1");
        return x;
    }
}
