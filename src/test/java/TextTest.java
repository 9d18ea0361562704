import java.util.ArrayList;
import java.util.List;

/** Texts at their edges: each FAULT that the document names, at each token, and that nothing changes then. */
public final class TextTest {
    private static final String[] KINDS = {"chimney", "baker", "tanner", "forge", "oven", "tar", "kiln"};
    private static final String[] MORE = {"", " ?high 9#", " ?fire 99#", " ?from 23# long 24#", " ?high 9# ?fire 99#",
        " ?high 9# ?from 23# long 24#", " ?fire 99# ?from 23# long 24#", " ?high 9# ?fire 99# ?from 23# long 24#"};
    private static final String AHEAD = "roof 7 of 3;wind 9 2;tar of 0 at 0; ";

    private TextTest() {
    }

    /** A token of a form: a word, or a number up to most; optional, if the item may end ahead of it. */
    private record Token(String text, int most, boolean isOptional) {
        boolean isNumber() {
            return most >= 0;
        }
    }

    public static void main(String[] args) {
        forms();
        numbers();
        windsUpTo23();
        ninthChimney();
        ninthOfEachKind();
        tokensAsLongAsCanBe();
        blanks();
        everyByte();
        signs();
        upTo120();
        inTheirOrder();
        optionsInTheirOrder();
        nothingChanges();
        Check.end();
    }

    private static void due(String what, long got, long want) {
        Check.due(what, got, want);
    }

    private static int read(String text) {
        return Check.read(new SmokeRoofs(), text);
    }

    /** The text has a fault at that place; nothing of it is so, and the tape is empty. */
    private static void fault(String text, int at) {
        SmokeRoofs x = new SmokeRoofs();
        due("32: '" + text + "'", Check.read(x, text), -1 - at);
        due("32: no chimney of '" + text + "'", x.count(1), 0);
        due("32: no roof of '" + text + "'", x.count(2), 0);
        due("32: no wind of '" + text + "'", x.wind(9, 0) + x.wind(0, 0) + x.wind(23, 0), 0);
        due("32: the tape is empty", x.count(5), 0);
        due("32: no finding", x.status(-1), 0);
    }

    private static void good(String text, int items) {
        SmokeRoofs x = new SmokeRoofs();
        due("32: '" + text + "'", Check.read(x, text), items);
        due("32: the tape is empty", x.count(5), 0);
        due("32: no finding", x.status(-1), 0);
    }

    /** Written 4# is the number 4, which is the most, and 20#23 the number 20 where 23 is the most. */
    private static List<Token> tokensOf(String form) {
        List<Token> tokens = new ArrayList<>();
        for (String word : form.split(" ")) {
            boolean isOptional = word.startsWith("?");
            String[] parts = word.replace("?", "").split("#");
            int most = word.contains("#") ? Integer.parseInt(parts[parts.length - 1]) : -1;
            tokens.add(new Token(parts[0], most, isOptional));
        }
        return tokens;
    }

    private static void forms() {
        List<String> all = new ArrayList<>(List.of("roof 35# of 5#", "wind 23# 4#", "wind 20#23 4# ?4# ?4# ?4#"));
        for (String kind : KINDS) {
            for (String more : MORE) {
                all.add(kind + " of 5# at 35#" + more);
            }
        }
        for (String form : all) {
            for (String ahead : new String[] {"", AHEAD}) {
                wrongTokens(tokensOf(form), ahead, ahead.isEmpty() ? 1 : 4);
            }
        }
    }

    /** Each token in its turn is missing, or another one, or has one ahead of it that can't stand there. */
    private static void wrongTokens(List<Token> tokens, String ahead, int items) {
        String before = ahead;
        for (int i = 0; i < tokens.size(); i++) {
            Token token = tokens.get(i);
            String behind = " " + textFrom(tokens, i + 1);
            for (String wrong : wrongFor(token, i)) {
                fault(before + wrong + behind, before.length());
                fault(before + wrong, before.length());
            }
            for (String wrong : new String[] {"zz", "$", "7", "Z"}) {
                boolean isNumberDue = token.isNumber() && wrong.equals("7") && token.most() >= 7;
                if (!isNumberDue) {
                    fault(before + wrong + " " + token.text() + behind, before.length());
                }
            }
            if (token.isOptional()) {
                good(before, items);
                good(before.trim(), items);
            } else {
                fault(before, before.length());
                fault(before.trim(), before.trim().length());
            }
            before += token.text() + " ";
        }
        good(before, items);
        good(before.trim(), items);
        fault(before + "zz", before.length());
        fault(before + "7", before.length());
        fault(before + "$", before.length());
        fault(before + ";", before.length() + 1);
        fault(before + "; ;", before.length() + 2);
    }

    private static String textFrom(List<Token> tokens, int from) {
        StringBuilder text = new StringBuilder();
        for (int i = from; i < tokens.size(); i++) {
            text.append(tokens.get(i).text()).append(' ');
        }
        return text.toString();
    }

    private static List<String> wrongFor(Token token, int i) {
        List<String> wrong = new ArrayList<>(List.of("zz", "$", "-1", (char) 200 + "", (char) 0 + "", "long1", "at"));
        if (token.isNumber()) {
            wrong.addAll(List.of(token.most() + 1 + "", "999", "1000", "9".repeat(30), "of"));
        } else {
            wrong.addAll(List.of("0", token.text() + "s", token.text().substring(1), token.text().toUpperCase()));
            wrong.remove(token.text());
            if (token.text().equals("long")) {
                wrong.remove("long1");
            }
        }
        if (i > 0) {
            wrong.add("roof");
            wrong.add("wind");
        }
        if (!token.isOptional()) {
            wrong.add(";");
        }
        return wrong;
    }

    /** Of each number in an item all that are allowed are so, and the next one is a fault. */
    private static void numbers() {
        String[][] texts = {{"high ", "3", "9"}, {"fire ", "4", "99"}, {"from ", "5", "23", " long 7"},
            {"from 9 long ", "6", "24"}};
        for (String[] t : texts) {
            int most = Integer.parseInt(t[2]);
            for (int v = 0; v <= most + 3; v++) {
                String text = "forge of 2 at 13 " + t[0] + v + (t.length > 3 ? t[3] : "");
                told(text, v <= most, 17 + t[0].length(), x -> x.of(0, what(t[1])), v);
            }
        }
        for (int v = 0; v <= 40; v++) {
            int cell = Math.min(v, 35);
            int owner = Math.min(v, 5);
            int clock = Math.min(v, 23);
            told("roof " + v + " of 4", v <= 35, 5, x -> x.roof(cell, -1), 4);
            told("roof 9 of " + v, v <= 5, 10, x -> x.roof(9, -1), owner);
            told("baker of " + v + " at 1", v <= 5, 9, x -> x.of(0, 1), v);
            told("baker of 1 at " + v, v <= 35, 14, x -> x.of(0, 2), v);
            told("wind " + v + " 3", v <= 23, 5, x -> x.wind(clock, 0), 3);
            told("wind 9 " + v, v <= 4, 7, x -> x.wind(9, 0), v);
        }
        good("roof 035 of 05", 1);
        good("roof 000000000000000000000000000000000000035 of 0000000005", 1);
        fault("roof 036 of 0", 5);
        fault("roof 4294967296 of 0", 5);
        fault("roof 18446744073709551616 of 0", 5);
        fault("roof 2147483648 of 0", 5);
    }

    private static int what(String digit) {
        return digit.charAt(0) - '0';
    }

    private static void told(String text, boolean isGood, int place, Towns.Call seen, int want) {
        if (!isGood) {
            fault(text, place);
            return;
        }
        SmokeRoofs x = new SmokeRoofs();
        due("32: '" + text + "'", Check.read(x, text), 1);
        due("32: '" + text + "' is so", seen.on(x), want);
    }

    /** Winds of this clock and the next ones, up to 23: one more is a fault, at its own place. */
    private static void windsUpTo23() {
        for (int clock = 0; clock < 24; clock++) {
            StringBuilder text = new StringBuilder("wind " + clock);
            fault(text.toString(), text.length());
            for (int n = 1; clock + n <= 24; n++) {
                text.append(' ').append(1 + n % 4);
                SmokeRoofs x = new SmokeRoofs();
                due("32: '" + text + "'", Check.read(x, text.toString()), 1);
                for (int c = 0; c < 24; c++) {
                    int i = c - clock + 1;
                    due("32: '" + text + "' at " + c, x.wind(c, 0), i >= 1 && i <= n ? 1 + i % 4 : 0);
                }
            }
            text.append(' ');
            fault(text + "0", text.length());
            fault(text + "1; roof 0 of 0", text.length());
            good(text + ";wind 0 1", 2);
        }
    }

    /** So many are there, so many are told: the fault is the word of the ninth, and none of them comes. */
    private static void ninthChimney() {
        String one = "tar of0at0;";
        for (int there = 0; there <= 8; there++) {
            for (int told = 1; told <= 9; told++) {
                String text = one.repeat(told) + "roof 0 of 0";
                SmokeRoofs x = Towns.with(there);
                boolean fits = there + told <= 8;
                due("32: " + told + " more than " + there, Check.read(x, text),
                    fits ? told + 1 : -1 - one.length() * (8 - there));
                due("32: so many then", x.count(1), fits ? there + told : there);
                due("32: the roof then", x.roof(0, -1), fits ? 0 : -1);
                due("32: no finding", x.status(-1), 0);
            }
        }
    }

    private static void ninthOfEachKind() {
        for (String kind : KINDS) {
            due("32: a ninth " + kind, Check.read(Towns.with(8), kind), -1);
            due("32: a ninth " + kind + ", whole", Check.read(Towns.with(8), "  " + kind + " of 0 at 0"), -3);
            due("32: a ninth " + kind + ", its own is first", Check.read(Towns.with(8), kind + " of 9"), -1);
            due("32: a ninth " + kind + " behind a fault", Check.read(Towns.with(8), "roof 36 of 0;" + kind), -6);
            due("32: an eighth " + kind, Check.read(Towns.with(7), kind + " of 0 at 0"), 1);
            due("32: an eighth " + kind + " without an end", Check.read(Towns.with(7), kind), -1 - kind.length());
        }
        SmokeRoofs x = Towns.with(8);
        due("32: roofs and winds may be told to eight", Check.read(x, "roof 0 of 0;wind 0 1 1"), 2);
        due("32: chimneys are not", Check.read(x, "roof 1 of 0;wind 0 2;kiln of 0 at 0"), -22);
        due("32: nothing of it", x.roof(1, -1), -1);
    }

    private static void tokensAsLongAsCanBe() {
        good("roof1of2", 1);
        good("tar of0at0high1fire2from3long4", 1);
        good("tar of 0at 0high 1fire 2from 3long 4", 1);
        good("wind0 1 2", 1);
        fault("wind01", 6);
        fault("wind 0 12", 7);
        fault("wind 012", 8);
        fault("wind 0 1 23", 9);
        fault("tarof 0 at 0", 0);
        fault("roofof 0", 0);
        fault("ro of 0 of 0", 0);
        fault("roof 3 5 of 0", 7);
        fault("roof 0 o f 0", 7);
        fault("roof 0 of 0roof 1 of 1", 11);
        fault("roof 0 of 0 roof 1 of 1", 12);
        fault("tar of 0 at 0high", 17);
        fault("tar of 0 at 0highfire 2", 13);
        fault("tar of 0 at 1 0", 14);
        for (String kind : KINDS) {
            fault(kind + "s of 0 at 0", 0);
            fault("a" + kind + " of 0 at 0", 0);
            fault(kind.substring(0, kind.length() - 1) + " of 0 at 0", 0);
            good(kind + " of0at0", 1);
        }
    }

    private static void blanks() {
        String[] tokens = {"", "roof", "35", "of", "5", ";", "wind", "23", "4", ""};
        for (int n = 1; n <= 9; n++) {
            StringBuilder text = new StringBuilder();
            for (String token : tokens) {
                text.append(token).append(" ".repeat(n));
            }
            good(text.toString(), 2);
            good(text.toString().trim(), 2);
        }
        fault("", 0);
        for (int n = 1; n <= 120; n++) {
            due("32: " + n + " blanks", read(" ".repeat(n)), -1 - n);
        }
        fault("roof   ", 7);
        fault("roof 0 of 0 ;   ", 16);
    }

    /** Each byte that there is, ahead of an item, within it and behind it. */
    private static void everyByte() {
        for (int b = 0; b < 256; b++) {
            boolean isLetter = b >= 'a' && b <= 'z';
            boolean isDigit = b >= '0' && b <= '9';
            String at = (char) b + "";
            if (b == ' ') {
                good(at + "roof 0 of 0", 1);
                good("roof" + at + "0 of 0", 1);
                good("roof 0 of 0" + at, 1);
            } else {
                fault(at + "roof 0 of 0", 0);
                fault(at, 0);
                fault("roof " + at + " of 0 zz", isDigit ? 12 : 5);
                fault("wind 0 1 " + at + " zz", isDigit && b <= '4' ? 11 : b == ';' ? 11 : 9);
            }
            if (isDigit) {
                due("32: two digits", read("roof 0 of 0" + at), b <= '5' ? 1 : -11);
                due("32: two digits ahead", read("roof" + at + "0 of 0"), b <= '3' ? 1 : -5);
            } else if (b == ';') {
                fault("roof 0 of 0" + at, 12);
                fault("roof" + at + "0 of 0", 4);
            } else if (b != ' ') {
                fault("roof 0 of 0" + at, 11);
                fault("roof" + at + "0 of 0", isLetter ? 0 : 4);
                fault("roof 0 " + at + "of 0", 7);
            }
        }
    }

    private static void signs() {
        fault(";", 0);
        fault(" ;", 1);
        fault(";roof 0 of 0", 0);
        fault("roof 0 of 0;;roof 1 of 1", 12);
        fault("roof 0 of 0;", 12);
        fault("roof 0 of 0,roof 1 of 1", 11);
        fault("roof 0 of 0:roof 1 of 1", 11);
        good("roof 0 of 0;roof 1 of 1", 2);
        good("roof 0 of 0 ; roof 1 of 1 ; roof 2 of 2", 3);
    }

    private static void upTo120() {
        String most = "wind0 1;".repeat(14) + "wind23 4";
        due("32: so long", most.length(), 120);
        good(most, 15);
        String roofs = "roof0of0;".repeat(12) + "roof 0035of5";
        due("32: so long", roofs.length(), 120);
        good(roofs, 13);
        String wind = "wind 0" + " 4".repeat(24);
        good(wind, 1);
        good(wind + ";" + wind, 2);
        due("32: ends with a word", read("wind0 1;".repeat(14) + "    roof"), -121);
        due("32: ends with a sign", read("wind0 1;".repeat(14) + "wind0 1;"), -121);
        due("32: ends with a number", read("wind0 1;".repeat(14) + "roof 035"), -121);
        due("32: ends with a wrong word", read("wind0 1;".repeat(14) + "    woof"), -117);
        due("32: ends with a wrong number", read("wind0 1;".repeat(14) + " wind 24"), -119);
        due("32: ends with a wrong byte", read("wind0 1;".repeat(14) + "wind0 1$"), -120);
        due("32: 120 letters", read("z".repeat(120)), -1);
        due("32: 120 digits", read("9".repeat(120)), -1);
        due("32: 116 digits", read("roof" + "0".repeat(116)), -121);
        due("32: 116 digits, too many", read("roof" + "9".repeat(116)), -5);
        SmokeRoofs x = new SmokeRoofs();
        Check.feed(x, "wind0 1;".repeat(14) + "wind23 4");
        due("30: no room for one more", x.feed(' ', 1), Check.FULL);
        due("32: it is read all the same", x.text(), 15);
        due("32: to the last byte", x.wind(23, 0), 4);
        Check.feed(x, "roof 0 of 0");
        due("32: a shorter one behind a longer one", x.text(), 1);
        due("32: the tape is empty", x.text(), -1);
    }

    private static void inTheirOrder() {
        SmokeRoofs x = new SmokeRoofs();
        due("32: five", Check.read(x, "roof 3 of 1;roof 3 of 2;wind 0 1 1 1;wind 1 2;roof 4 of 5"), 5);
        due("32: the latest roof", x.roof(3, -1), 2);
        due("32: the other roof", x.roof(4, -1), 5);
        due("32: winds", x.wind(0, 0) * 100 + x.wind(1, 0) * 10 + x.wind(2, 0), 121);
        SmokeRoofs y = Towns.with(2);
        due("32: three", Check.read(y, "kiln of 1 at 2;oven of 3 at 4 high 5;tar of 5 at 6 fire 7"), 3);
        int[][] due = {{6, 1, 2, 1, 20, 0, 24}, {4, 3, 4, 5, 20, 0, 24}, {5, 5, 6, 1, 7, 0, 24}};
        for (int i = 0; i < 3; i++) {
            for (int what = 0; what < 7; what++) {
                due("32: chimney " + (2 + i) + ", what " + what, y.of(2 + i, what), due[i][what]);
            }
            due("32: nothing of it yet", y.air(2 + i, -1) + y.settled(2 + i, -1) + y.parts(2 + i, 2), 0);
        }
        due("32: HOUR stays", y.count(0), 2);
    }

    /** high, fire and from: each perhaps, but in this order and once. */
    private static void optionsInTheirOrder() {
        String one = "tar of 0 at 0";
        String[] options = {" high 1", " fire 1", " from 1 long 1"};
        for (int a = 0; a < 3; a++) {
            good(one + options[a], 1);
            for (int b = 0; b < 3; b++) {
                String text = one + options[a];
                if (a < b) {
                    good(text + options[b], 1);
                } else {
                    fault(text + options[b], text.length() + 1);
                }
            }
        }
        fault(one + " long 1", 14);
        fault(one + " long 1 from 1", 14);
        fault(one + " from 1 high 1", 21);
        fault(one + " from 1 fire 1", 21);
        fault(one + " from 1", 20);
        fault(one + " from 1;", 20);
        fault(one + " from long 1", 19);
        fault("roof 0 of 0 high 1", 12);
        fault("wind 0 1 high 1", 9);
        fault("tar at 0 of 0", 4);
    }

    /** Nothing changes but that the tape is empty, whatever the text told ahead of its fault. */
    private static void nothingChanges() {
        String all = "roof 5 of 0;wind 0 4 4 4 4;";
        String[] texts = {"", " ", all, all + "roof 36 of 0", all + "roof 0 of 6", all + "roof 0 at 0", all + "$",
            all + "wind 24 0", all + "wind 0 5", all + "wind 23 1 1", all + "wind 0", all + "smoke",
            all + "tar of 0 at 36", all + "tar of 0 at 0 high 10", all + "tar of 0 at 0 from 0 long 25"};
        for (String text : texts) {
            Towns.Maker fed = () -> {
                SmokeRoofs x = wiped();
                Check.feed(x, text);
                return x;
            };
            Twins.same("32: '" + text + "' changed something", fed, SmokeRoofs::text, TextTest::wiped, y -> 0);
            Towns.Maker lean = () -> {
                SmokeRoofs x = Towns.upAndDown();
                Check.feed(x, text);
                return x;
            };
            Twins.same("32: '" + text + "' changed a lean town", lean, SmokeRoofs::text, Towns::upAndDown, y -> 0);
        }
    }

    private static SmokeRoofs wiped() {
        SmokeRoofs x = Towns.full();
        x.wipe();
        return x;
    }
}
