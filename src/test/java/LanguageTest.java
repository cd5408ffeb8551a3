import java.lang.reflect.InvocationTargetException;
import java.lang.reflect.Method;
import java.nio.file.Files;
import java.nio.file.Path;
import java.util.ArrayList;
import java.util.Arrays;
import java.util.List;
import java.util.Set;
import java.util.TreeSet;
import javax.lang.model.element.Modifier;

/**
 * The rules of LANGUAGE.md, as far as the source can tell whether they are kept. It is read where it
 * lies, by the compiler's own reader, so the test is run from the project's directory.
 */
public final class LanguageTest extends Sentences {
    private static final Path SOURCE = Path.of("src", "main", "java", "FencedBoxes.java");
    private static final Set<String> TEXT_CALLS = Set.of("length", "charAt", "isEmpty", "equals", "indexOf",
        "substring", "toCharArray");
    private static final Set<String> BUILDER_CALLS = Set.of("append", "charAt", "setCharAt", "setLength",
        "deleteCharAt", "reverse", "length", "toString");

    private static SourceReader source;

    private static void none(int rule) {
        same(List.of(), source.of(rule));
    }

    /** How many methods stand open at most from this one on; those that call themselves count once. */
    private static int deepest(String method, List<String> open) {
        int most = 0;
        List<String> now = new ArrayList<>(open);
        now.add(method);
        for (String called : source.calls.getOrDefault(method, Set.of())) {
            if (!now.contains(called)) {
                most = Math.max(most, deepest(called, now));
            }
        }
        return most + 1;
    }

    private static boolean reaches(String from, String to, Set<String> seen) {
        for (String called : source.calls.getOrDefault(from, Set.of())) {
            if (called.equals(to) || seen.add(called) && reaches(called, to, seen)) {
                return true;
            }
        }
        return false;
    }

    private static boolean isAllowed(String call) {
        String owner = call.substring(0, call.lastIndexOf('.'));
        String name = call.substring(call.lastIndexOf('.') + 1);
        switch (owner) {
            case "java.lang.Integer": case "java.lang.Long": case "java.lang.Math":
                return Set.of("compare", "max", "min", "abs", "bitCount", "floorDiv", "floorMod").contains(name);
            case "java.lang.String":
                return TEXT_CALLS.contains(name);
            case "java.lang.StringBuilder":
                return BUILDER_CALLS.contains(name);
            case "java.lang.System":
                return name.equals("arraycopy");
            case "java.util.Arrays":
                return Set.of("copyOf", "copyOfRange", "fill").contains(name);
            default:
                return false;
        }
    }

    private static boolean isShown(Method m) {
        return java.lang.reflect.Modifier.isPublic(m.getModifiers());
    }

    private static void faceAndClasses() {
        sentence("LANGUAGE 1", "one file, src/main/java/FencedBoxes.java, without a package line", () -> {
            same(true, source.unit.getPackageName() == null);
            same(1, source.unit.getTypeDecls().size());
        });
        sentence("LANGUAGE 1", "no other public, protected or package-visible member, but for the classes inside it",
            () -> {
                none(1);
                Set<String> shown = new TreeSet<>();
                for (Method m : FencedBoxes.class.getDeclaredMethods()) {
                    if (!java.lang.reflect.Modifier.isPrivate(m.getModifiers())) {
                        same(m.getName(), isShown(m) ? m.getName() : "not public");
                        shown.add(m.getName());
                    }
                }
                same(41, shown.size());
            });
        sentence("LANGUAGE 1", "No private method bears the name of a public one.", () -> {
            Set<String> shown = new TreeSet<>();
            source.methods.forEach((name, m) -> {
                if (m.getModifiers().getFlags().contains(Modifier.PUBLIC)) {
                    shown.add(m.getName().toString());
                }
            });
            source.methods.forEach((name, m) -> {
                if (!m.getModifiers().getFlags().contains(Modifier.PUBLIC) && m.getReturnType() != null) {
                    same(name, shown.contains(m.getName().toString()) ? "a name of the face" : name);
                }
            });
        });
        sentence("LANGUAGE 2", "no local class that captures a variable, no lambda, no method reference",
            () -> none(2));
        sentence("LANGUAGE 3", "Types: int, long, short, byte, char, boolean, double, float", () -> none(3));
        sentence("LANGUAGE 4", "The library: only what stands here.", () -> {
            none(4);
            same(true, source.library.size() > 0);
            for (String call : source.library) {
                same(call, isAllowed(call) ? call : "not allowed");
            }
        });
        sentence("LANGUAGE 5", "No other static state, no static initialiser block.", () -> none(5));
    }

    private static void exceptions() {
        sentence("LANGUAGE 6", "throw new E() or throw new E(\"a written text\")", () -> {
            none(6);
            same(true, source.thrown > 0);
        });
        sentence("LANGUAGE 7", "No call may ever throw by itself (only by a throw statement) or fail to end, for any "
            + "arguments in any state", () -> {
                none(7);
                int[] arguments = {0, 1, 2, 4, 11, 12, 30, 31, 32, 59, 102, 110, 126, 127, -1, -12, Integer.MIN_VALUE,
                    Integer.MAX_VALUE};
                for (int ahead = 1; ahead < 31; ahead += 4) {
                    for (int draws = 0; draws <= 31; draws += 3) {
                        FencedBoxes x = strides(new FencedBoxes(), ahead, draws);
                        for (Method m : FencedBoxes.class.getDeclaredMethods()) {
                            if (isShown(m)) {
                                throwsWhatItTells(x, m, arguments);
                            }
                        }
                    }
                }
            });
    }

    private static void throwsWhatItTells(FencedBoxes x, Method m, int[] arguments) {
        for (int argument : m.getParameterCount() == 0 ? new int[1] : arguments) {
            try {
                m.invoke(x, m.getParameterCount() == 0 ? new Object[0] : new Object[] {argument});
            } catch (InvocationTargetException e) {
                Class<?> thrown = e.getCause().getClass();
                boolean told = Arrays.asList(m.getExceptionTypes()).contains(thrown);
                same(m.getName(), told ? m.getName() : m.getName() + " throws " + thrown.getName());
            } catch (IllegalAccessException e) {
                same(m.getName(), "not shown");
            }
        }
    }

    private static void shape() {
        sentence("LANGUAGE 8", "Recursion: a private static method that calls itself", () -> {
            int recursions = 0;
            for (String method : source.methods.keySet()) {
                if (reaches(method, method, new TreeSet<>())) {
                    recursions++;
                    Set<Modifier> flags = source.methods.get(method).getModifiers().getFlags();
                    boolean own = flags.contains(Modifier.PRIVATE) && flags.contains(Modifier.STATIC);
                    same(method, own ? method : "not private static");
                    same(true, source.methods.get(method).getParameters().stream()
                        .anyMatch(p -> p.getName().contentEquals("depth")));
                }
            }
            same(1, recursions);
        });
        sentence("LANGUAGE 9", "Every loop has an end that can be seen from its own lines", () -> {
            none(9);
            same(true, source.loops > 0);
        });
        sentence("LANGUAGE 10", "joining texts by StringBuilder (not by +)", () -> none(10));
        sentence("LANGUAGE 11", "A method takes at most seven parameters. Methods stay short (some sixty lines)",
            () -> none(11));
        sentence("LANGUAGE 11", "calls that are no recursion go at most eight deep", () -> {
            for (String method : source.methods.keySet()) {
                int deep = deepest(method, List.of());
                same(method, deep <= 8 ? method : deep + " deep");
            }
        });
        sentence("LANGUAGE 11", "the file has at most some twelve classes, and a class some twenty fields", () -> {
            same(true, source.classes <= 12);
            source.fields.forEach((name, count) -> same(name, count <= 20 ? name : count + " fields"));
        });
        sentence("LANGUAGE 12", "An object may be made by any method, and none in a loop without a bound.", () -> {
            none(12);
            same(true, source.made.size() > 0);
        });
        sentence("LANGUAGE 13", "No clock, no randomness, no file, network, thread or environment", () -> {
            same(List.of("java.util.NoSuchElementException"), source.imports);
        });
    }

    public static void main(String[] args) {
        same(true, Files.isReadable(SOURCE));
        source = SourceReader.read(SOURCE);
        faceAndClasses();
        exceptions();
        shape();
        end();
    }
}
