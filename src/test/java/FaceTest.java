import java.lang.reflect.Constructor;
import java.lang.reflect.Field;
import java.lang.reflect.Method;
import java.lang.reflect.Modifier;
import java.util.Set;
import java.util.TreeSet;

/** The class shows the document's face and no member more. */
public final class FaceTest {
    private static final String NO_SUCH = "java.util.NoSuchElementException";
    private static final String ARGUMENT = "java.lang.IllegalArgumentException";
    private static final String STATE = "java.lang.IllegalStateException";

    private static String method(String answer, String nameAndArguments, String... exceptions) {
        String text = "public " + answer + " BallotBox." + nameAndArguments;
        return exceptions.length == 0 ? text : text + " throws " + String.join(",", exceptions);
    }

    private static Set<String> due() {
        return new TreeSet<>(Set.of(
            "public BallotBox()",
            method("int", "weight(int,int)", NO_SUCH, ARGUMENT),
            method("int", "need(int)", ARGUMENT),
            method("int", "promise(int,int)", NO_SUCH, STATE),
            method("int", "vote(int,int,int)", NO_SUCH, STATE),
            method("int", "ask(int,int)", NO_SUCH, STATE),
            method("int", "chosen(int)", NO_SUCH),
            method("boolean", "can(int,int)", NO_SUCH),
            method("boolean", "safe(int,int)", NO_SUCH),
            method("int", "free(int)", NO_SUCH),
            method("boolean", "enough(int)", NO_SUCH),
            method("boolean", "blocks(int)", NO_SUCH),
            method("int", "sets()"),
            method("int", "least()"),
            method("boolean", "meet()"),
            method("int", "bare()"),
            method("int", "about(int,int)", NO_SUCH, ARGUMENT),
            method("int", "count(int)")));
    }

    private static Set<String> shown() {
        Set<String> found = new TreeSet<>();
        for (Constructor<?> c : BallotBox.class.getDeclaredConstructors()) {
            if (!Modifier.isPrivate(c.getModifiers())) {
                found.add(c.toString());
            }
        }
        for (Method m : BallotBox.class.getDeclaredMethods()) {
            if (!Modifier.isPrivate(m.getModifiers())) {
                found.add(m.toString());
            }
        }
        for (Field f : BallotBox.class.getDeclaredFields()) {
            if (!Modifier.isPrivate(f.getModifiers())) {
                found.add(f.toString());
            }
        }
        return found;
    }

    private static Set<String> namesOfMethods(boolean hidden) {
        Set<String> names = new TreeSet<>();
        for (Method m : BallotBox.class.getDeclaredMethods()) {
            if (Modifier.isPrivate(m.getModifiers()) == hidden) {
                names.add(m.getName());
            }
        }
        return names;
    }

    private static boolean staticFieldsAreFinal() {
        for (Field f : BallotBox.class.getDeclaredFields()) {
            if (Modifier.isStatic(f.getModifiers()) && !Modifier.isFinal(f.getModifiers())) {
                return false;
            }
        }
        return true;
    }

    private static int wrongIf(boolean isWrong, String text) {
        if (isWrong) {
            System.out.println(text);
        }
        return isWrong ? 1 : 0;
    }

    public static void main(String[] args) {
        Set<String> twice = namesOfMethods(true);
        twice.retainAll(namesOfMethods(false));
        int modifiers = BallotBox.class.getModifiers();
        int wrong = wrongIf(!due().equals(shown()), "the face is " + shown() + ", due is " + due());
        wrong += wrongIf(!twice.isEmpty(), "private methods with public names: " + twice);
        wrong += wrongIf(!staticFieldsAreFinal(), "a static field is not final");
        wrong += wrongIf(!Modifier.isPublic(modifiers) || !Modifier.isFinal(modifiers),
            "the class is not public and final");
        System.out.println(wrong == 0 ? "the face is as due" : "the face is not as due");
        if (wrong != 0) {
            System.exit(1);
        }
    }
}
