import java.io.IOException;
import java.io.UncheckedIOException;
import java.lang.reflect.Constructor;
import java.lang.reflect.Field;
import java.lang.reflect.Method;
import java.lang.reflect.Modifier;
import java.nio.file.Files;
import java.nio.file.Path;
import java.util.ArrayList;
import java.util.Arrays;
import java.util.List;
import java.util.stream.Collectors;

/**
 * The lines of 'The public face', each by itself, and what else the document says of the interface.
 * What the source says is read where it lies, so the test is run from the project's directory.
 */
public final class FaceTest extends Sentences {
    private static final String FACE = "The public face";
    private static final Path SOURCE = Path.of("src", "main", "java", "FencedBoxes.java");
    private static final Class<?> SHOWN = FencedBoxes.class;

    private static final String[] CALLS = {
        "public int draw(int fence) throws IllegalArgumentException, IllegalStateException;",
        "public int newGame();",
        "public boolean isDrawn(int fence) throws IllegalArgumentException;",
        "public int drawn();",
        "public int fencesOf(int box) throws IllegalArgumentException;",
        "public int ownerOf(int box) throws IllegalArgumentException, NoSuchElementException;",
        "public int boxesOf(int player) throws IllegalArgumentException;",
        "public int boxesWith(int fences) throws IllegalArgumentException;",
        "public int turn();",
        "public int whyNot(int fence) throws IllegalArgumentException;",
        "public boolean isOver();",
        "public int canTake();",
        "public int canTakeByRounds();",
        "public int takingFence() throws NoSuchElementException;",
        "public boolean isSafe(int fence) throws IllegalArgumentException;",
        "public int safeFences();",
        "public int safeInRow();",
        "public int gives(int fence) throws IllegalArgumentException, IllegalStateException;",
        "public int leastSacrifice() throws NoSuchElementException;",
        "public int chains();",
        "public int chainOf(int box) throws IllegalArgumentException, NoSuchElementException;",
        "public int rings();",
        "public int longChains();",
        "public int ruleHoldsFor();",
        "public int endDifference() throws NoSuchElementException;",
        "public int endByTrying() throws NoSuchElementException;",
        "public int bestFence() throws NoSuchElementException;",
        "public int won(int player) throws IllegalArgumentException;",
        "public int evenGames();",
        "public int doubleDeals();",
        "public float share();",
        "public int keep();",
        "public int goBack() throws IllegalStateException;",
        "public int states();",
        "public int undo() throws IllegalStateException;",
        "public int type(int character) throws IllegalArgumentException, IllegalStateException;",
        "public int clearText();",
        "public int faultPosition() throws NoSuchElementException;",
        "public int faultReason() throws NoSuchElementException;",
        "public int faultCause() throws NoSuchElementException;",
        "public int play() throws IllegalStateException;"};

    /** The parts of the interface, each with its calls, as the document names them. */
    private static final String[][] PARTS = {
        {"changes", "draw", "newGame"},
        {"fences, boxes", "isDrawn", "drawn", "fencesOf", "ownerOf", "boxesOf", "boxesWith", "turn", "whyNot",
            "isOver"},
        {"taking, giving", "canTake", "canTakeByRounds", "takingFence", "isSafe", "safeFences", "safeInRow", "gives",
            "leastSacrifice"},
        {"chains", "chains", "chainOf", "rings", "longChains", "ruleHoldsFor"},
        {"ends", "endDifference", "endByTrying", "bestFence"},
        {"accounts, the snapshot", "won", "evenGames", "doubleDeals", "share", "keep", "goBack"},
        {"history, texts", "states", "undo", "type", "clearText", "faultPosition", "faultReason", "faultCause",
            "play"}};

    private static List<String> sourceLines() {
        try {
            return Files.readAllLines(SOURCE);
        } catch (IOException e) {
            throw new UncheckedIOException(e);
        }
    }

    private static List<Method> shownMethods() {
        List<Method> methods = new ArrayList<>();
        for (Method m : SHOWN.getDeclaredMethods()) {
            if (!Modifier.isPrivate(m.getModifiers())) {
                methods.add(m);
            }
        }
        return methods;
    }

    private static String names(Class<?>[] classes) {
        return Arrays.stream(classes).map(Class::getSimpleName).collect(Collectors.joining(", "));
    }

    /** As a line of the face, but without the names of the arguments, which a compiled class keeps not. */
    private static String told(Method m) {
        String exceptions = names(m.getExceptionTypes());
        return Modifier.toString(m.getModifiers()) + " " + m.getReturnType().getSimpleName() + " " + m.getName()
            + "(" + names(m.getParameterTypes()) + ")" + (exceptions.isEmpty() ? "" : " throws " + exceptions) + ";";
    }

    private static String nameIn(String line) {
        String head = line.substring(0, line.indexOf('('));
        return head.substring(head.lastIndexOf(' ') + 1);
    }

    private static void lines() {
        sentence(FACE, "public final class FencedBoxes {", () -> {
            same(Modifier.PUBLIC | Modifier.FINAL, SHOWN.getModifiers());
            same("FencedBoxes", SHOWN.getName());
            same(Object.class, SHOWN.getSuperclass());
            same(0, SHOWN.getInterfaces().length);
        });
        sentence(FACE, "public FencedBoxes();", () -> {
            Constructor<?>[] constructors = SHOWN.getDeclaredConstructors();
            same(1, constructors.length);
            same("", names(constructors[0].getParameterTypes()));
            same("", names(constructors[0].getExceptionTypes()));
            same(Modifier.PUBLIC, constructors[0].getModifiers());
        });
        for (String line : CALLS) {
            sentence(FACE, line, () -> {
                List<String> found = new ArrayList<>();
                for (Method m : shownMethods()) {
                    if (m.getName().equals(nameIn(line))) {
                        found.add(told(m));
                    }
                }
                same(List.of(line.replaceAll("int [a-z]+\\)", "int)")), found);
                same(true, sourceLines().contains("    " + line.replace(";", " {")));
            });
        }
        sentence(FACE, "}", () -> {
            same(CALLS.length, shownMethods().size());
            for (Field f : SHOWN.getDeclaredFields()) {
                same(f.getName(), Modifier.isPrivate(f.getModifiers()) ? f.getName() : "not private");
            }
        });
        sentence("Terms", "All numbers are whole numbers, but for the share.", () -> {
            for (Method m : shownMethods()) {
                Class<?> answer = m.getReturnType();
                same(true, m.getName().equals("share") ? answer == float.class
                    : answer == int.class || answer == boolean.class);
                for (Class<?> argument : m.getParameterTypes()) {
                    same(int.class, argument);
                }
            }
        });
    }

    private static void parts() {
        for (String[] part : PARTS) {
            List<String> names = Arrays.asList(part).subList(1, part.length);
            String calls = names.stream().map(name -> "`" + name + "`").collect(Collectors.joining(", "));
            sentence("Changes and exceptions", "Ahead of the calls " + calls + " the interface says: ---- " + part[0]
                + ".", () -> same(names, callsBehind("// ---- " + part[0])));
        }
    }

    /** The calls of the face in the source from a heading on to the next one. */
    private static List<String> callsBehind(String heading) {
        List<String> calls = new ArrayList<>();
        boolean behind = false;
        for (String line : sourceLines()) {
            if (line.trim().startsWith("// ----")) {
                behind = line.trim().equals(heading);
            } else if (behind && line.startsWith("    public ")) {
                calls.add(nameIn(line));
            }
        }
        return calls;
    }

    public static void main(String[] args) {
        lines();
        parts();
        end();
    }
}
