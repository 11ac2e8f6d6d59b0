import java.lang.reflect.Method;
import java.lang.reflect.Modifier;
import java.nio.file.Files;
import java.nio.file.Path;
import java.util.Arrays;
import java.util.List;
import java.util.Set;
import java.util.TreeSet;
import java.util.regex.Matcher;
import java.util.regex.Pattern;

/** What README.md shows of calls, answers and constants is so. */
public final class ReadmeTest {
    private static final Pattern ALMANAC = Pattern.compile("String almanac = \"([^\"]*)\";");
    private static final Pattern SHOWN = Pattern.compile("x\\.(\\w+)\\(([-0-9, ]*)\\); +// (-?\\d+)\\b.*");

    public static void main(String[] args) throws Exception {
        String readme = Files.readString(Path.of("README.md"));
        example(readme);
        callsAreListed(readme);
        constants(readme);
        Check.end();
    }

    private static void example(String readme) {
        Matcher block = Pattern.compile("(?s)```java\n(.*?)```").matcher(readme);
        Check.that("README.md has an example", block.find());
        String code = block.group(1);
        Matcher almanac = ALMANAC.matcher(code);
        Check.that("the example has an almanac", almanac.find());
        int size = almanac.group(1).length();
        LostDays x = new LostDays();
        int shown = 0;
        for (String line : code.replace("almanac.length());", size + ");").split("\n")) {
            if (line.startsWith("    x.put(")) {
                // the loop of the example
                Make.write(x, 0, almanac.group(1));
            } else if (line.startsWith("x.")) {
                shown++;
                shownIsSo(x, line);
            }
        }
        Check.that("the example shows calls", shown > 10);
    }

    private static void shownIsSo(LostDays x, String line) {
        Matcher m = SHOWN.matcher(line);
        if (!m.matches()) {
            Check.that("a call and its answer: " + line, false);
            return;
        }
        int[] numbers = Arrays.stream(m.group(2).split(", ")).filter(s -> !s.isEmpty()).mapToInt(Integer::parseInt).toArray();
        Check.due("README.md: " + line, Call.answer(x, m.group(1), numbers), Long.parseLong(m.group(3)));
    }

    private static void callsAreListed(String readme) {
        List<String> listed = readme.lines().dropWhile(line -> !line.equals("| calls | are about |"))
                .skip(2).takeWhile(line -> line.startsWith("|")).map(line -> line.split("\\|")[1].replace("`", "").trim())
                .flatMap(names -> Arrays.stream(names.split(" "))).toList();
        Set<String> calls = new TreeSet<>();
        for (Method m : LostDays.class.getDeclaredMethods()) {
            if (Modifier.isPublic(m.getModifiers())) {
                calls.add(m.getName());
            }
        }
        Check.due("README.md lists each call once", listed.size(), calls.size());
        Check.that("README.md lists the calls of the class", new TreeSet<>(listed).equals(calls));
    }

    private static void constants(String readme) throws ReflectiveOperationException {
        for (String name : new String[] {"BAD", "FULL", "FINDING", "STATE", "SPENT", "NONE"}) {
            String begins = "| " + LostDays.class.getField(name).getInt(null) + " | `" + name + "` |";
            Check.that("README.md tells " + name, readme.lines().filter(line -> line.startsWith(begins)).count() == 1);
        }
    }
}
