import java.io.IOException;
import java.io.UncheckedIOException;
import java.lang.reflect.InvocationTargetException;
import java.lang.reflect.Method;
import java.lang.reflect.Modifier;
import java.nio.file.Files;
import java.nio.file.Path;
import java.util.List;
import java.util.regex.Matcher;
import java.util.regex.Pattern;
import java.util.stream.Collectors;
import java.util.stream.Stream;

/** README.md against the class and the tests; it is read where it lies, from the project's directory. */
public final class ReadmeTest extends Sentences {
    private static final Pattern CALL = Pattern.compile("x\\.(\\w+)\\((\\d*|'.')\\); +// (\\w+)(: .*)?");

    private static List<String> linesOf(Path file) {
        try {
            return Files.readAllLines(file);
        } catch (IOException e) {
            throw new UncheckedIOException(e);
        }
    }

    private static String readme() {
        return String.join("\n", linesOf(Path.of("README.md")));
    }

    private static String answer(FencedBoxes x, String name, String argument) {
        try {
            if (argument.isEmpty()) {
                return String.valueOf(FencedBoxes.class.getMethod(name).invoke(x));
            }
            int number = argument.startsWith("'") ? argument.charAt(1) : Integer.parseInt(argument);
            return String.valueOf(FencedBoxes.class.getMethod(name, int.class).invoke(x, number));
        } catch (InvocationTargetException e) {
            return e.getCause().getClass().getSimpleName();
        } catch (NoSuchMethodException | IllegalAccessException e) {
            return "no such call";
        }
    }

    private static void example() {
        FencedBoxes x = new FencedBoxes();
        for (String line : linesOf(Path.of("README.md"))) {
            if (line.startsWith("x.")) {
                Matcher call = CALL.matcher(line);
                same(true, call.matches());
                same(call.group(3), answer(x, call.group(1), call.group(2)));
            }
        }
    }

    private static void tests() {
        try (Stream<Path> files = Stream.concat(Files.list(Path.of("src", "test", "java")),
            Files.list(Path.of("src", "test", "help")))) {
            files.map(file -> file.getFileName().toString().replace(".java", "")).forEach(name ->
                same(name, readme().contains("`" + name + "`") ? name : "not named"));
        } catch (IOException e) {
            throw new UncheckedIOException(e);
        }
    }

    private static void calls() {
        for (Method m : FencedBoxes.class.getDeclaredMethods()) {
            if (Modifier.isPublic(m.getModifiers())) {
                String name = m.getName();
                same(name, readme().contains("`" + name + "`") ? name : "not named");
            }
        }
    }

    private static List<int[]> picturedLines(String start) {
        return linesOf(Path.of("README.md")).stream().filter(line -> line.matches("    " + start + ".*"))
            .map(line -> Stream.of(line.split("\\D+")).filter(part -> !part.isEmpty())
                .mapToInt(Integer::parseInt).toArray()).collect(Collectors.toList());
    }

    private static void picture() {
        List<int[]> level = picturedLines("\\+--");
        List<int[]> beside = picturedLines("\\d\\d ");
        same(4, level.size());
        same(3, beside.size());
        for (int row = 0; row < 3; row++) {
            for (int column = 0; column < 4; column++) {
                int box = beside.get(row)[2 * column + 1];
                same(4 * row + column, box);
                same(4, with(level.get(row)[column], level.get(row + 1)[column], beside.get(row)[2 * column],
                    beside.get(row)[2 * column + 2]).fencesOf(box));
            }
        }
    }

    public static void main(String[] args) {
        sentence("README", "A game's beginning, each call with its answer", ReadmeTest::example);
        sentence("README", "The tests in `src/test/java`", ReadmeTest::tests);
        sentence("README", "The calls, by what they are for", ReadmeTest::calls);
        sentence("README", "inside each box below stands its own, on each fence the fence's", ReadmeTest::picture);
        end();
    }
}
