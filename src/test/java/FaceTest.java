import java.lang.reflect.Constructor;
import java.lang.reflect.Field;
import java.lang.reflect.Method;
import java.lang.reflect.Modifier;
import java.util.Arrays;
import java.util.Set;
import java.util.TreeSet;
import java.util.stream.Collectors;

/** The class shows the document's face, whole, and nothing else. */
public final class FaceTest {
    private static final String ARGUMENT = " throws IllegalArgumentException";
    private static final String STATE = " throws IllegalStateException";
    private static final String ELEMENT = " throws NoSuchElementException";
    private static final String ARGUMENT_STATE = " throws IllegalArgumentException, IllegalStateException";
    private static final String ARGUMENT_ELEMENT = " throws IllegalArgumentException, NoSuchElementException";

    private static final String[] FACE = {
        "int draw(int)" + ARGUMENT_STATE, "int newGame()", "boolean isDrawn(int)" + ARGUMENT, "int drawn()",
        "int fencesOf(int)" + ARGUMENT, "int ownerOf(int)" + ARGUMENT_ELEMENT, "int boxesOf(int)" + ARGUMENT,
        "int boxesWith(int)" + ARGUMENT, "int turn()", "int whyNot(int)" + ARGUMENT, "boolean isOver()",
        "int canTake()", "int canTakeByRounds()", "int takingFence()" + ELEMENT, "boolean isSafe(int)" + ARGUMENT,
        "int safeFences()", "int safeInRow()", "int gives(int)" + ARGUMENT_STATE, "int leastSacrifice()" + ELEMENT,
        "int chains()", "int chainOf(int)" + ARGUMENT_ELEMENT, "int rings()", "int longChains()",
        "int ruleHoldsFor()", "int endDifference()" + ELEMENT, "int endByTrying()" + ELEMENT,
        "int bestFence()" + ELEMENT, "int won(int)" + ARGUMENT, "int evenGames()", "int doubleDeals()",
        "float share()", "int keep()", "int goBack()" + STATE, "int states()", "int undo()" + STATE,
        "int type(int)" + ARGUMENT_STATE, "int clearText()", "int faultPosition()" + ELEMENT,
        "int faultReason()" + ELEMENT, "int faultCause()" + ELEMENT, "int play()" + STATE};

    private static int wrong = 0;

    private static void due(String what, Object want, Object got) {
        if (!want.equals(got)) {
            wrong++;
            System.out.println(what + ": " + got + ", due is " + want);
        }
    }

    private static String names(Class<?>[] classes) {
        return Arrays.stream(classes).map(Class::getSimpleName).collect(Collectors.joining(", "));
    }

    private static String told(Method m) {
        String exceptions = names(m.getExceptionTypes());
        return m.getReturnType().getSimpleName() + " " + m.getName() + "(" + names(m.getParameterTypes()) + ")"
            + (exceptions.isEmpty() ? "" : " throws " + exceptions);
    }

    public static void main(String[] args) {
        Class<?> c = FencedBoxes.class;
        due("public and final", Modifier.PUBLIC | Modifier.FINAL, c.getModifiers());
        Set<String> shown = new TreeSet<>();
        Set<String> names = new TreeSet<>();
        for (Method m : c.getDeclaredMethods()) {
            if (!Modifier.isPrivate(m.getModifiers())) {
                due("modifiers of " + m.getName(), Modifier.PUBLIC, m.getModifiers());
                shown.add(told(m));
                names.add(m.getName());
            }
        }
        due("the calls", new TreeSet<>(Arrays.asList(FACE)), shown);
        Constructor<?>[] constructors = c.getDeclaredConstructors();
        due("constructors", 1, constructors.length);
        due("of the constructor", "", names(constructors[0].getParameterTypes()));
        due("is public", Modifier.PUBLIC, constructors[0].getModifiers());
        for (Field f : c.getDeclaredFields()) {
            due("private " + f.getName(), true, Modifier.isPrivate(f.getModifiers()));
            due("no static state " + f.getName(), true,
                !Modifier.isStatic(f.getModifiers()) || Modifier.isFinal(f.getModifiers()));
        }
        for (Class<?> inside : c.getDeclaredClasses()) {
            due("private static " + inside.getSimpleName(), true,
                Modifier.isPrivate(inside.getModifiers()) && Modifier.isStatic(inside.getModifiers()));
            for (Method m : inside.getDeclaredMethods()) {
                due("no name of the face " + m.getName(), false, names.contains(m.getName()));
            }
        }
        for (Method m : c.getDeclaredMethods()) {
            if (Modifier.isPrivate(m.getModifiers())) {
                due("no private one of the face " + m.getName(), false, names.contains(m.getName()));
            }
        }
        System.out.println(wrong == 0 ? "the face is the document's" : wrong + " faults of the face");
        if (wrong != 0) {
            System.exit(1);
        }
    }
}
