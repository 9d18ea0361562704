import java.lang.reflect.Constructor;
import java.lang.reflect.Field;
import java.lang.reflect.Member;
import java.lang.reflect.Method;
import java.lang.reflect.Modifier;
import java.nio.file.Files;
import java.nio.file.Path;
import java.util.Set;
import java.util.TreeSet;

/** The face is the document's and no more, and the source keeps to what a text search can see of LANGUAGE.md. */
public final class LanguageTest {
    private static final String FACE = "air2 ahead2 as2 book1 build2 canHave4 change3 chimney3 clear1 clocks3 copy5 "
        + "count1 feed2 gains2 highFor2 hold2 hours1 image0 judge1 load1 of2 over1 parts2 place2 reaches2 roof2 "
        + "seed1 settled2 sheet3 status1 strike0 tear0 text0 thickest0 touched1 undo0 washing2 weather1 when3 "
        + "wind2 wipe0 worst2 write3";

    private LanguageTest() {
    }

    public static void main(String[] args) throws Exception {
        face();
        nested();
        source(Files.readString(Path.of(args.length > 0 ? args[0] : "src/main/java/SmokeRoofs.java")));
        Check.end();
    }

    private static void face() {
        Set<String> found = new TreeSet<>();
        for (Method m : SmokeRoofs.class.getDeclaredMethods()) {
            if (Modifier.isPublic(m.getModifiers())) {
                found.add(m.getName() + m.getParameterCount());
                boolean ints = m.getReturnType() == int.class;
                for (Class<?> type : m.getParameterTypes()) {
                    ints &= type == int.class;
                }
                Check.holds(m + " is of ints", ints && !Modifier.isStatic(m.getModifiers()));
            } else {
                isPrivate(m);
            }
        }
        Check.holds("the face is " + found, found.equals(new TreeSet<>(Set.of(FACE.split(" ")))));
        for (Field f : SmokeRoofs.class.getDeclaredFields()) {
            isPrivate(f);
        }
        Constructor<?>[] made = SmokeRoofs.class.getDeclaredConstructors();
        Check.holds("one constructor", made.length == 1 && made[0].getParameterCount() == 0
            && Modifier.isPublic(made[0].getModifiers()));
        Check.holds("public and final", SmokeRoofs.class.getModifiers() == (Modifier.PUBLIC | Modifier.FINAL));
    }

    private static void isPrivate(Member m) {
        Check.holds(m + " is private", Modifier.isPrivate(m.getModifiers()));
        Check.holds(m + " is no other's name", !(m instanceof Method)
            || !FACE.matches("(.* )?" + m.getName() + "[0-9]( .*)?"));
    }

    private static void nested() {
        Check.holds("at most 12 classes", SmokeRoofs.class.getDeclaredClasses().length < 12);
        for (Class<?> inside : SmokeRoofs.class.getDeclaredClasses()) {
            Check.holds(inside + " is static", Modifier.isStatic(inside.getModifiers()));
            Check.holds(inside + " has some 20 fields", inside.getDeclaredFields().length <= 20);
            for (Method m : inside.getDeclaredMethods()) {
                Check.holds(m + " is no face's name", !FACE.matches("(.* )?" + m.getName() + "[0-9]( .*)?"));
                Check.holds(m + " takes at most 7", m.getParameterCount() <= 7);
            }
        }
    }

    private static void source(String whole) {
        String code = whole.replaceAll("(?s)/\\*.*?\\*/", " ").replaceAll("//[^\n]*", " ");
        String[] words = {"throw", "throws", "try", "catch", "finally", "synchronized", "assert", "package", "native",
            "volatile", "System\\.(?!arraycopy)\\w+", "double", "float", "equals", "hashCode", "toString", "Object"};
        for (String word : words) {
            Check.holds("no " + word, !code.matches("(?s).*\\b" + word + "\\b.*"));
        }
        Check.holds("no lambda or method reference", !code.contains("->") && !code.contains("::"));
        Check.holds("no static block", !code.matches("(?s).*static\\s*\\{.*"));
        Check.holds("no library but Arrays", code.replaceAll("import java\\.util\\.Arrays;", "").indexOf("import") < 0);
        Check.holds("characters 1 to 127", whole.chars().allMatch(c -> c > 0 && c < 128));
    }
}
