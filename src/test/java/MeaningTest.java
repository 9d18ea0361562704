/** Sentences that could be taken otherwise: for each wrong reading a town in which its answer is another one. */
public final class MeaningTest {
    private static final int ALL_CLOCKS = (1 << 24) - 1;

    private MeaningTest() {
    }

    public static void main(String[] args) {
        changeOfOneThing();
        smokeStaysWhereItIs();
        settlesAsItIsNow();
        roofsThatStandThen();
        allThatIsThen();
        fromNowOn();
        choicesWithSmokeInTheAir();
        fireTogether();
        overNow();
        smellsAlone();
        everyClock();
        itemByItem();
        severalSpots();
        drawnClocksAlone();
        Check.end();
    }

    private static void due(String what, long got, long want) {
        Check.due(what, got, want);
    }

    /** Wind one column more at all clocks, one chimney of owner 0 on cell 0. */
    private static SmokeRoofs smoky(int kind) {
        SmokeRoofs x = Towns.windy(2);
        x.chimney(kind, 0, 0);
        return x;
    }

    /** What is changed and changed back leaves all as it was: nothing else changed with it. */
    private static void changeOfOneThing() {
        int[] other = {1, 4, 20, 6, 33, 11, 5};
        for (int chimney : new int[] {0, 3, 7}) {
            for (int what = 0; what < 7; what++) {
                int w = what;
                backAgain("6: change " + what + " of " + chimney, x -> x.change(chimney, w, other[w]),
                    (x, was) -> x.change(chimney, w, was));
            }
        }
        for (int cell : new int[] {0, 5, 14, 35}) {
            backAgain("2: roof on " + cell, x -> x.roof(cell, 3), (x, was) -> x.roof(cell, was));
        }
        backAgain("3: wind", x -> x.wind(5, 4), (x, was) -> x.wind(5, was));
        backAgain("29: seed", x -> x.seed(0), (x, was) -> x.seed(was));
        backAgain("33: hold", x -> x.hold(3, -1), (x, was) -> x.hold(3, 5));
    }

    private interface Back {
        int on(SmokeRoofs x, int was);
    }

    private static void backAgain(String what, Towns.Call there, Back back) {
        Twins.same(what + " changes that alone", Towns::full, x -> back.on(x, there.on(x)), Towns::full, x -> 0);
    }

    /** A chimney that is moved leaves its smoke behind it. */
    private static void smokeStaysWhereItIs() {
        SmokeRoofs x = smoky(0);
        x.hours(1);
        x.change(0, 2, 18);
        due("6: where it was", x.air(0, 1), 15);
        due("6: nothing yet where it is", x.air(0, 18), 0);
        x.hours(1);
        due("6: what was burnt there goes on", x.air(0, 2), 11);
        due("6: what is burnt here", x.air(0, 19), 15);
        due("6: and nothing else", x.air(0, -1), 26);
    }

    /** KIND, OWNER and HIGH count as they are when it settles, not as they were when it was burnt. */
    private static void settlesAsItIsNow() {
        SmokeRoofs x = smoky(1);
        x.roof(2, 1);
        x.roof(3, 2);
        x.hours(1);
        x.change(0, 6, 0);
        x.change(0, 0, 2);
        x.hours(1);
        due("Terms: 4 parts of a tanner now", x.book(1), 12);
        due("Terms: paid by its owner", x.book(0), -12);
        x.change(0, 1, 5);
        x.change(0, 3, 0);
        due("Terms: 30 hundredths of 11 now", x.hours(1), 3);
        due("Terms: paid for", x.book(2), 9);
        due("Terms: by the new owner", x.book(5), -9);
        due("Terms: the old one has no more to do with it", x.book(0), -12);
    }

    /** A roof gets what settles while it stands; books stay as they are when it changes hands. */
    private static void roofsThatStandThen() {
        SmokeRoofs x = smoky(2);
        x.hours(1);
        x.roof(1, 1);
        due("2: nothing for what has settled already", x.book(1), 0);
        x.hours(1);
        due("2: for what settles then", x.book(1), 15);
        x.roof(1, 2);
        due("2: it stays with whom it came to", x.book(1), 15);
        x.hours(1);
        due("2: and no more", x.book(1), 15);
        due("2: but for the next one", x.book(2), 15);
        x.roof(1, -1);
        x.hours(1);
        due("2: nobody's", x.book(0), -30);
    }

    /** TOWN and OUT ahead are all that there is then, not what comes in these hours alone. */
    private static void allThatIsThen() {
        SmokeRoofs x = Towns.windy(2);
        x.wind(0, 0);
        x.chimney(0, 0, 0);
        x.chimney(0, 0, 5);
        x.hours(2);
        due("15: came down before", x.ahead(0, 1), 40);
        due("15: out before", x.ahead(0, 2), 20);
        due("15: no more comes down in wind", x.ahead(1, 1), 40);
        due("15: more goes out", x.ahead(1, 2), 40);
        due("15: out then", x.ahead(3, 2), 80);
        due("15: nothing settled in no hours", x.ahead(0, 0), 0);
        due("15: settles in one", x.ahead(1, 0), 9);
    }

    /** What has reached a roof before doesn't count for reaches(), nor does dirt for choices. */
    private static void fromNowOn() {
        SmokeRoofs x = smoky(2);
        x.roof(1, 1);
        x.roof(3, 2);
        x.hours(2);
        due("17: it has settled there", x.touched(0), 1 << 1);
        x.change(0, 6, 0);
        due("17: but will not again", x.reaches(0, 1), Check.NONE);
        due("17: where it comes to", x.reaches(0, 2), 1);
        due("15: dirt to come", x.ahead(2, 10), 0);
        due("23: no dirt to come", x.washing(1, 5), 1);
        due("23: dirt that is in the air", x.washing(2, 5), Check.NONE);
    }

    /** Choices are played with the smoke that is in the air already. */
    private static void choicesWithSmokeInTheAir() {
        SmokeRoofs bread = Towns.windy(3);
        bread.chimney(1, 0, 13);
        bread.change(0, 4, 3);
        bread.hours(1);
        bread.roof(25, 1);
        due("18: 3 parts alone would all be cut", bread.ahead(1, 0), 0);
        due("18: 3 more over the same cell let one settle", bread.place(0, 1), 19);
        SmokeRoofs tan = smoky(2);
        tan.roof(2, 1);
        tan.hours(1);
        tan.change(0, 6, 0);
        due("19: the higher, the less settles of it", tan.highFor(0, 1), 8);
        due("20: who pays less then", tan.gains(0, 1), 1);
        due("24: it is dirt even if it is out", tan.worst(1, 1), 0);
        SmokeRoofs two = Towns.windy(2);
        two.chimney(2, 0, 0);
        two.hours(1);
        two.change(0, 6, 0);
        two.chimney(2, 0, 1);
        two.roof(2, 1);
        due("24: not the one whose smoke comes anyway", two.worst(1, 1), 1);
        due("21: no clock helps against what is in the air", two.when(0, 1, 1), 0);
        due("15: how much", two.ahead(1, 10), 4 + 5);
        due("21: lit at 0 it makes a dirty cloud of two clean ones", twoClouds().when(0, 1, 1), 1);
    }

    /** At clock 0: 3 parts of a tanner are over the cell on which it stands, beside a roof of owner 1. */
    private static SmokeRoofs twoClouds() {
        SmokeRoofs x = Towns.windy(3);
        x.chimney(2, 0, 1);
        x.change(0, 4, 3);
        x.change(0, 5, 23);
        x.change(0, 6, 1);
        x.hours(24);
        x.change(0, 2, 7);
        x.roof(13, 1);
        return x;
    }

    /** FIRE is the number that change() sets, not what is burnt: a kiln with FIRE 0 adds nothing to a set. */
    private static void fireTogether() {
        SmokeRoofs x = Towns.windy(2);
        x.chimney(6, 0, 0);
        x.chimney(0, 0, 6);
        due("23: both", x.washing(1, 1), 3);
        x.change(0, 4, 0);
        due("5: it burns 5 even so", x.of(0, 9), 5);
        due("23: the least set", x.washing(1, 1), 2);
        x.change(1, 4, 0);
        due("23: none of them", x.washing(1, 1), 0);
        x.change(0, 4, 1);
        due("23: the kiln alone", x.washing(1, 1), 1);
        x.change(0, 6, 0);
        due("23: FIRE counts though it isn't lit", x.washing(1, 1), 1);
    }

    /** Over a cell is what is in the air there now, not what has settled or was over it. */
    private static void overNow() {
        SmokeRoofs x = smoky(0);
        x.hours(1);
        due("25: over it", x.over(1), 1);
        x.wind(1, 0);
        x.hours(1);
        due("25: settled there", x.settled(0, 1), 5);
        due("25: but not over it", x.over(1), 0);
    }

    /** From empty air, lit or not, and with what settles on the way. */
    private static void smellsAlone() {
        SmokeRoofs x = smoky(0);
        x.hours(3);
        due("26: not what is in the air now", x.canHave(0, 0, 3, 2), 0);
        due("26: what would come", x.canHave(0, 0, 2, 2), 1);
        x.change(0, 6, 0);
        due("26: lit or not", x.canHave(0, 0, 2, 2), 1);
        due("26: it goes on burning", x.canHave(0, 0, 1, 2), 1);
        x.change(0, 4, 0);
        due("26: without fire nothing is burnt", x.canHave(0, 0, 1, 1), 0);
        x.change(0, 0, 6);
        due("26: but a kiln burns 5", x.canHave(3, 0, 1, 1), 1);
        SmokeRoofs late = Towns.onceADay(3);
        late.hours(5);
        due("26: the clock that is told, not that of the hour", late.canHave(2, 3, 1, 1), 1);
        due("26: another", late.canHave(2, 22, 1, 1), 0);
        SmokeRoofs oven = smoky(4);
        due("26: an oven at 11", oven.canHave(1, 11, 1, 1), 1);
        due("26: an oven at 12", oven.canHave(1, 12, 1, 1), 0);
        due("26: what it burnt at 11", oven.canHave(1, 11, 2, 2), 1);
        due("26: nothing at 12", oven.canHave(1, 11, 1, 2), 0);
    }

    /** clocks() supposes a part at every clock, also where the chimney is out or burns nothing. */
    private static void everyClock() {
        SmokeRoofs x = smoky(4);
        due("27: an oven", x.clocks(0, 3, 3), ALL_CLOCKS);
        x.change(0, 6, 0);
        due("27: that is out", x.clocks(0, 3, 3), ALL_CLOCKS);
        x.change(0, 4, 0);
        due("27: without fire", x.clocks(0, 3, 3), ALL_CLOCKS);
        x.wind(7, 0);
        due("27: in calm it comes down", x.clocks(0, 3, 3), ALL_CLOCKS & ~(7 << 5));
        x.hours(9);
        due("27: whatever hour it is", x.clocks(0, 3, 3), ALL_CLOCKS & ~(7 << 5));
    }

    /** A text adds to what there is; of two items that tell the same thing the later one counts. */
    private static void itemByItem() {
        SmokeRoofs x = smoky(2);
        x.roof(7, 3);
        x.hours(2);
        due("32: items", Check.read(x, "roof 8 of 1;roof 8 of 2;wind 3 1 4;wind 4 0;kiln of 4 at 9"), 5);
        due("32: the later", x.roof(8, 2), 2);
        due("32: wind of 3", x.wind(3, 1), 1);
        due("32: wind of 4, the later", x.wind(4, 0), 0);
        due("32: other winds stay", x.wind(5, 2), 2);
        due("32: other roofs stay", x.roof(7, 3), 3);
        due("32: the new chimney is the next", x.of(1, 0), 6);
        due("32: the old one stays", x.of(0, 0), 2);
        due("32: and its smoke", x.air(0, -1), 26);
        due("32: and the hour", x.count(0), 2);
    }

    private static void severalSpots() {
        SmokeRoofs x = smoky(2);
        x.hold(0, 0);
        x.hold(9, 0);
        due("33: both hold it", x.count(7), 2);
        due("34: the one", x.as(0, 2), 0);
        due("34: again", x.as(0, 0), 0);
        due("34: the other", x.as(9, 0), 0);
        x.hold(0, -1);
        due("33: one holds it still", x.as(9, 2), 0);
        due("33: nothing is held again", x.hold(0, -1), 1);
        due("33: one", x.count(7), 1);
    }

    /** Each clock is drawn, and then its wind; the others stay as they are. */
    private static void drawnClocksAlone() {
        for (int seed : new int[] {0, 1, -1, 77, 123456789}) {
            SmokeRoofs x = Towns.windy(4);
            x.seed(seed);
            int z = seed * 1103515245 + 12345;
            int clock = (z >>> 8) % 24;
            z = z * 1103515245 + 12345;
            int wind = (z >>> 8) % 5;
            due("28: calm clocks", x.weather(1), wind == 0 ? 1 : 0);
            for (int c = 0; c < 24; c++) {
                due("28: clock " + c, x.wind(c, 0), c == clock ? wind : 4);
            }
            due("28: two draws", x.count(6), z);
        }
        due("28: all that are calm, drawn or not", new SmokeRoofs().weather(1) >= 23 ? 1 : 0, 1);
    }
}
