import java.lang.reflect.Method;
import java.util.ArrayList;
import java.util.Arrays;
import java.util.Comparator;
import java.util.HashMap;
import java.util.List;
import java.util.Map;
import java.util.Random;

/** Long runs of drawn calls (by fixed seeds), each answered by SmokeRoofs and by PlainTown alike. */
public final class AgreementTest {
    private static final int RUNS = 200;
    /** What an object answers later is free. */
    private static final int CALLS = 512;

    /** How far the arguments of a call go, if they are to be good ones: least and most of each. */
    private static final Map<String, int[]> RANGES = new HashMap<>();

    static {
        RANGES.put("roof", new int[] {0, 35, -1, 5});
        RANGES.put("wind", new int[] {0, 23, 0, 4});
        RANGES.put("chimney", new int[] {0, 6, 0, 5, 0, 35});
        RANGES.put("of", new int[] {0, 7, 0, 9});
        RANGES.put("change", new int[] {0, 7, 0, 6, 0, 24});
        RANGES.put("book", new int[] {0, 5});
        RANGES.put("air", new int[] {-1, 7, -1, 35});
        RANGES.put("settled", new int[] {-1, 7, -1, 35});
        RANGES.put("parts", new int[] {0, 7, 0, 2});
        RANGES.put("touched", new int[] {0, 7});
        RANGES.put("hours", new int[] {1, 48});
        RANGES.put("ahead", new int[] {0, 72, 0, 14});
        RANGES.put("clear", new int[] {0, 7});
        RANGES.put("reaches", new int[] {0, 7, 0, 5});
        RANGES.put("place", new int[] {0, 7, 1, 24});
        RANGES.put("highFor", new int[] {0, 7, 1, 24});
        RANGES.put("gains", new int[] {0, 7, 1, 24});
        RANGES.put("when", new int[] {0, 7, 0, 5, 1, 24});
        RANGES.put("build", new int[] {0, 5, 1, 24});
        RANGES.put("washing", new int[] {0, 5, 1, 12});
        RANGES.put("worst", new int[] {0, 5, 1, 24});
        RANGES.put("over", new int[] {0, 35});
        RANGES.put("canHave", new int[] {0, 6, 0, 23, 0, 35, 1, 12});
        RANGES.put("clocks", new int[] {0, 7, 0, 35, 1, 12});
        RANGES.put("weather", new int[] {1, 24});
        RANGES.put("seed", new int[] {-9, 9});
        RANGES.put("feed", new int[] {32, 127, 1, 4});
        RANGES.put("hold", new int[] {0, 9, -1, 7});
        RANGES.put("as", new int[] {0, 9, 0, 6});
        RANGES.put("sheet", new int[] {0, 3, 0, 32, 0, 40});
        RANGES.put("write", new int[] {0, 3, 0, 39, -300, 300});
        RANGES.put("copy", new int[] {0, 3, 0, 20, 0, 3, 0, 20, 0, 20});
        RANGES.put("load", new int[] {0, 3});
        RANGES.put("judge", new int[] {0, 3});
        RANGES.put("count", new int[] {0, 7});
        RANGES.put("status", new int[] {-1, 6});
    }

    private static final String[] WORDS = {"roof", "of", "chimney", "baker", "tanner", "forge", "oven", "tar",
        "kiln", "at", "high", "fire", "from", "long", "wind", ";", "roofs", "$", "0", "5", "24", "36", "1000"};
    private static final int[] ODD = {-2, -1, 0, 1, 6, 7, 8, 10, 15, 24, 25, 36, 41, 49, 73, 100, 255,
        Integer.MAX_VALUE, Integer.MIN_VALUE, Integer.MAX_VALUE - 3};

    private final Random random;
    private final SmokeRoofs x = new SmokeRoofs();
    private final PlainTown y = new PlainTown();
    private final List<Method> face = new ArrayList<>();
    private final StringBuilder told = new StringBuilder();
    private boolean agrees = true;
    private int calls = 0;

    private AgreementTest(int seed) {
        random = new Random(seed);
        for (Method m : SmokeRoofs.class.getDeclaredMethods()) {
            if (java.lang.reflect.Modifier.isPublic(m.getModifiers())) {
                face.add(m);
            }
        }
        face.sort(Comparator.comparing(Method::getName));
    }

    public static void main(String[] args) throws Exception {
        for (int seed = 0; seed < RUNS; seed++) {
            AgreementTest run = new AgreementTest(seed);
            run.play(seed);
            Check.holds("run " + seed + " agrees", run.agrees);
            if (!run.agrees) {
                System.out.println(run.told);
            }
        }
        everyByteOfTexts();
        Check.end();
    }

    /** Texts of which one byte after the other is another one, is one more, or is missing. */
    private static void everyByteOfTexts() {
        String[] texts = {"roof 3 of 5;wind 9 2 4", " oven of 1 at 2 high 9 fire 99 from 23 long 0 ",
            "tar of0at0;kiln of1at1"};
        for (String text : texts) {
            for (int at = 0; at <= text.length(); at++) {
                for (int b = 0; b < 256; b++) {
                    sameText(text.substring(0, at) + (char) b + text.substring(at));
                    if (at < text.length()) {
                        sameText(text.substring(0, at) + (char) b + text.substring(at + 1));
                    }
                }
                sameText(text.substring(0, at));
                sameText(text.substring(at));
            }
        }
    }

    private static void sameText(String text) {
        SmokeRoofs x = new SmokeRoofs();
        PlainTown y = new PlainTown();
        Check.feed(x, text);
        y.tape.append(text);
        Check.due("32: '" + text + "'", x.text(), y.text());
        for (int what = 0; what < 8; what++) {
            Check.due("32: '" + text + "' and count " + what, x.count(what), y.count(what));
        }
    }

    private void play(int seed) throws Exception {
        if (seed % 3 != 0) {
            settle();
        }
        if (seed % 10 == 9) {
            nearTheEnd();
        }
        while (calls < CALLS && agrees) {
            Method m = face.get(random.nextInt(face.size()));
            if (m.getName().equals("text") && random.nextInt(8) != 0) {
                feedText();
            }
            if (m.getName().equals("judge") && random.nextBoolean()) {
                writeTruth();
            }
            ask(m, draw(m));
        }
    }

    private int ask(Method m, Object[] args) throws Exception {
        calls++;
        int got = (Integer) m.invoke(x, args);
        if (calls > CALLS) {
            return got;
        }
        int want = (Integer) PlainTown.class.getMethod(m.getName(), m.getParameterTypes()).invoke(y, args);
        told.append(m.getName()).append(Arrays.toString(args)).append(" = ").append(got).append('\n');
        if (got != want) {
            agrees = false;
            told.append("   due is ").append(want).append('\n');
        }
        return got;
    }

    private int ask(String name, Integer... args) throws Exception {
        int got = 0;
        for (Method m : face) {
            if (m.getName().equals(name)) {
                got = ask(m, args);
            }
        }
        return got;
    }

    private Object[] draw(Method m) {
        int[] range = RANGES.get(m.getName());
        Object[] args = new Object[m.getParameterCount()];
        for (int i = 0; i < args.length; i++) {
            args[i] = range[2 * i] + random.nextInt(range[2 * i + 1] - range[2 * i] + 1);
            if (random.nextInt(25) == 0) {
                args[i] = ODD[random.nextInt(ODD.length)];
            }
            if (random.nextInt(12) == 0) {
                args[i] = new int[] {range[2 * i] - 1, range[2 * i], range[2 * i + 1], range[2 * i + 1] + 1}[
                    random.nextInt(4)];
            }
        }
        if (m.getName().equals("sheet") && random.nextInt(10) != 0) {
            args[1] = new int[] {0, 8, 16, 16, 32, 32}[random.nextInt(6)];
        }
        if ((m.getName().equals("weather") || m.getName().equals("seed")) && random.nextBoolean()) {
            args[0] = random.nextInt();
        }
        if (m.getName().equals("write") && random.nextBoolean()) {
            args[2] = random.nextInt(6);
        }
        return args;
    }

    /** A town with roofs, winds and chimneys, so that smoke comes to roofs. */
    private void settle() throws Exception {
        int roofs = random.nextInt(36);
        for (int i = 0; i < roofs; i++) {
            ask("roof", random.nextInt(36), random.nextInt(6));
        }
        if (random.nextInt(12) == 0) {
            for (int cell = 0; cell < 36; cell++) {
                ask("roof", cell, random.nextInt(6));
            }
        }
        for (int clock = 0; clock < 24; clock++) {
            ask("wind", clock, random.nextInt(9) == 0 ? 0 : 1 + random.nextInt(4));
        }
        int chimneys = random.nextInt(9);
        for (int i = 0; i < chimneys; i++) {
            ask("chimney", random.nextInt(7), random.nextInt(6), random.nextInt(36));
            ask("change", i, 3, random.nextInt(10));
            ask("change", i, 4, random.nextInt(4) == 0 ? 0 : random.nextInt(100));
            ask("change", i, 5, random.nextInt(24));
            ask("change", i, 6, random.nextInt(25));
        }
    }

    private void nearTheEnd() throws Exception {
        for (int i = 0; i < 207; i++) {
            ask("hours", 48);
        }
        ask("image");
    }

    /** A sheet that tells what settles, but for a number now and then. */
    private void writeTruth() throws Exception {
        int n = random.nextInt(41);
        ask("sheet", 0, 32, n);
        int before = 0;
        for (int i = 0; i < n; i++) {
            int now = ask("ahead", i + 1, 0);
            ask("write", 0, i, now - before + (random.nextInt(60) == 0 ? 1 : 0));
            before = now;
        }
        ask("judge", 0);
    }

    private void feedText() throws Exception {
        StringBuilder text = new StringBuilder();
        int items = 1 + random.nextInt(5);
        for (int i = 0; i < items; i++) {
            text.append(i == 0 ? "" : blank() + ";" + blank()).append(item());
        }
        if (random.nextInt(3) == 0) {
            spoil(text);
        }
        ask("wipe");
        for (int at = 0; at < text.length(); at++) {
            ask("feed", (int) text.charAt(at), 1);
        }
    }

    private String blank() {
        return "  ".substring(random.nextInt(3));
    }

    private String number(int most) {
        int slip = random.nextInt(40);
        return (slip == 1 ? " 00" : " ") + (random.nextInt(most + 1) + (slip == 0 ? most : 0));
    }

    private String item() {
        int sort = random.nextInt(3);
        if (sort == 0) {
            return "roof" + number(35) + blank() + "of" + number(5);
        }
        if (sort == 1) {
            StringBuilder wind = new StringBuilder("wind" + number(23));
            int n = 1 + random.nextInt(6);
            for (int i = 0; i < n; i++) {
                wind.append(number(4));
            }
            return wind.toString();
        }
        String text = WORDS[2 + random.nextInt(7)] + " of" + number(5) + blank() + "at" + number(35);
        text += random.nextBoolean() ? blank() + "high" + number(9) : "";
        text += random.nextBoolean() ? blank() + "fire" + number(99) : "";
        return text + (random.nextBoolean() ? blank() + "from" + number(23) + " long" + number(24) : "");
    }

    private void spoil(StringBuilder text) {
        int at = random.nextInt(text.length() + 1);
        if (random.nextBoolean()) {
            text.setLength(at);
        } else {
            text.insert(at, " " + WORDS[random.nextInt(WORDS.length)] + " ");
        }
    }
}
