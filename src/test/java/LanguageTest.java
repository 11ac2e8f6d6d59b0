import java.lang.reflect.Constructor;
import java.lang.reflect.Field;
import java.lang.reflect.Method;
import java.lang.reflect.Modifier;
import java.nio.file.Files;
import java.nio.file.Path;
import java.util.List;
import java.util.Set;
import java.util.TreeSet;
import java.util.regex.Matcher;
import java.util.regex.Pattern;

/** The face of the document, and rules of LANGUAGE.md that can be seen in the file. */
public final class LanguageTest {
    private static final String FACE = "row/2 lay/3 at/2 tear/1 copy/5 mean/1 text/2 put/3 fault/1 almanac/1 town/2 mark/2"
            + " order/2 gap/2 leap/2 go/1 back/1 keep/1 on/1 date/2 day/2 year/2 same/3 between/3 where/2 left/2 dates/4"
            + " age/2 eldest/1 agree/4 till/2 apart/4 due/3 quarrels/1 change/4 rent/4 voyage/4 dated/3 kinds/2 moon/1"
            + " feast/2 together/4 keeps/3 fails/3 lots/4 asked/0 upper/0 lower/0 count/1 finding/0 findings/1 digest/0";

    public static void main(String[] args) throws Exception {
        face();
        classes();
        String source = Files.readString(Path.of("src/main/java/LostDays.java"));
        words(source);
        madeInConstructorsAlone(source);
        methods(source);
        Check.end();
    }

    private static void face() {
        Check.that("the class is public and final", LostDays.class.getModifiers() == (Modifier.PUBLIC | Modifier.FINAL));
        Set<String> methods = new TreeSet<>();
        Set<String> privates = new TreeSet<>();
        for (Method m : LostDays.class.getDeclaredMethods()) {
            if (Modifier.isPrivate(m.getModifiers())) {
                privates.add(m.getName());
                continue;
            }
            Check.that(m + " is as told", m.getModifiers() == Modifier.PUBLIC);
            boolean isLong = Set.of("upper", "lower", "digest").contains(m.getName());
            Check.that(m + " answers as told", m.getReturnType() == (isLong ? long.class : int.class));
            methods.add(m.getName() + "/" + m.getParameterCount());
        }
        Check.that("the methods are those of the face", methods.equals(new TreeSet<>(List.of(FACE.split(" ")))));
        for (String method : methods) {
            Check.that(method + " is not private, too", !privates.contains(method.replaceAll("/.*", "")));
        }
        Constructor<?>[] constructors = LostDays.class.getDeclaredConstructors();
        Check.that("one constructor", constructors.length == 1 && constructors[0].getParameterCount() == 0);
        Set<String> constants = new TreeSet<>();
        for (Field f : LostDays.class.getDeclaredFields()) {
            if (!Modifier.isPrivate(f.getModifiers())) {
                constants.add(f.getName());
            }
            Check.that(f + " is final, if it is static",
                    !Modifier.isStatic(f.getModifiers()) || Modifier.isFinal(f.getModifiers()));
        }
        Check.that("the constants are those of the face",
                constants.equals(Set.of("BAD", "FULL", "FINDING", "STATE", "SPENT", "NONE")));
    }

    private static void classes() {
        Class<?>[] inside = LostDays.class.getDeclaredClasses();
        Check.that("at most twelve classes", inside.length < 12);
        for (Class<?> c : inside) {
            Check.that(c + " is static and private", Modifier.isStatic(c.getModifiers())
                    && Modifier.isPrivate(c.getModifiers()));
            Check.that(c + " has at most twenty fields", c.getDeclaredFields().length <= 20);
        }
    }

    private static void words(String source) {
        String code = source.replaceAll("(?s)/\\*.*?\\*/", "").replaceAll("//[^\n]*", "").replaceAll("'[^']*'", "0");
        String wrong = "\\b(throw|throws|try|catch|synchronized|assert|import|package|protected|double|float|Object|"
                + "String|record|enum|null|while|native|transient|volatile|Exact)\\b|->|::|@|\"|static \\{";
        Matcher m = Pattern.compile(wrong).matcher(code);
        while (m.find()) {
            Check.that("the file has no '" + m.group() + "'", false);
        }
        Matcher library = Pattern.compile("\\b(Math|Integer|Long|System|Arrays)\\.(\\w+)").matcher(code);
        Set<String> allowed = Set.of("abs", "max", "min", "bitCount", "arraycopy");
        while (library.find()) {
            Check.that(library.group() + " is of the library told", allowed.contains(library.group(2)));
        }
        Check.that("all signs are below 128", source.chars().allMatch(c -> c < 128));
    }

    /** So that no run of calls fills the room. */
    private static void madeInConstructorsAlone(String source) {
        for (String line : source.split("\n")) {
            if (line.contains(" new ") && !line.trim().startsWith("*")) {
                boolean isField = line.matches("\\s*(private )?final \\w+(\\[\\])? \\w+ = new .*;");
                boolean isInConstructor = line.matches(" {12}(rows|texts|towns|kept)\\[\\w\\] = new \\w+\\(\\);");
                Check.that("made by a constructor: " + line.trim(), isField || isInConstructor);
            }
        }
    }

    private static void methods(String source) {
        Matcher m = Pattern.compile("(?m)^( +)((?:\\w+(?:\\[\\])? )+\\w+)\\(([^)]*)\\) \\{\n").matcher(source);
        while (m.find()) {
            int end = source.indexOf("\n" + m.group(1) + "}\n", m.end() - 1);
            String body = source.substring(m.end(), Math.max(m.end(), end));
            Check.that(m.group(2) + " is short", end >= 0 && body.lines().count() <= 60);
            Check.that(m.group(2) + " takes at most seven", m.group(3).split(",").length <= 7);
            divisorsAreLookedAt(m.group(2), body);
        }
    }

    /** A divisor that is no constant is compared in its own method, or is the leap of one that has leaps. */
    private static void divisorsAreLookedAt(String method, String body) {
        Matcher m = Pattern.compile("[/%] ([a-z]\\w*)").matcher(body.replaceAll("//[^\n]*", ""));
        while (m.find()) {
            String divisor = m.group(1);
            boolean isCompared = Pattern.compile("(?<![/%] )\\b" + divisor + " ([!=]=|<=?|>=?) ").matcher(body).find();
            boolean isOfLeap = (divisor.equals("leap") || body.contains("int " + divisor + " = YEAR_DAYS * leap + 1;"))
                    && body.contains("hasLeaps()");
            // 98 or 100
            boolean isLength = body.contains("int " + divisor + " = shortLength();");
            Check.that(method + " looks at its divisor " + divisor, isCompared || isOfLeap || isLength);
        }
    }
}
