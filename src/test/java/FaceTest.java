import java.lang.reflect.Constructor;
import java.lang.reflect.Field;
import java.lang.reflect.Method;
import java.lang.reflect.Modifier;
import java.util.Arrays;
import java.util.Set;
import java.util.TreeSet;

/** The public face: the document's constants, constructor and methods, and no other member that can be seen. */
public final class FaceTest {
    private static final String[] METHODS = {
        "int configure(int, int, int, int)", "int setCells(int)", "int setTimeout(int)", "int connect(int, int, boolean)",
        "int attempt(int, int)", "int answer(int, int)", "int advance(int)", "int unblock(int)", "int append(int)",
        "int clearInput()", "int firstError()", "int runInput()", "int cellOf(int)", "int score(int)", "int isBlocked(int)",
        "long seenDestinations(int)", "int blockedContacts(int)", "int wronglyBlocked(int)", "int attemptCount()",
        "int describeAttempt(int)", "int clock()", "int verdictCount()", "int describeVerdict(int)",
        "int countSequences(int, int)", "long scannerProbability(int, int)", "long expectedContacts(int, int)", "long digest()"
    };
    private static final String[] CONSTANTS = {
        "UNDECIDED=0", "SCANNER=1", "BENIGN=2", "BLOCKED=3", "REPEATED=4", "BAD_CHARACTER=-101", "BUFFER_FULL=-102",
        "INVALID_INPUT=-103", "OUT_OF_RANGE=-104", "NO_SUCH_SOURCE=-105", "NO_SUCH_DESTINATION=-106", "NO_SUCH_CELL=-107",
        "NO_SUCH_ATTEMPT=-108", "NO_SUCH_VERDICT=-109", "TOO_MANY_ATTEMPTS=-110", "NOT_BLOCKED=-111"
    };

    public static void main(String[] args) throws IllegalAccessException {
        Due due = new Due();
        due.isTrue("the class is public and final", Modifier.isPublic(ScanDetector.class.getModifiers())
            && Modifier.isFinal(ScanDetector.class.getModifiers()));
        same(due, "methods", visibleMethods(), METHODS);
        same(due, "constants", visibleFields(), CONSTANTS);
        Constructor<?>[] constructors = ScanDetector.class.getDeclaredConstructors();
        due.is("constructors", constructors.length, 1);
        due.is("parameters of the constructor", constructors[0].getParameterCount(), 0);
        due.isTrue("the constructor is public", Modifier.isPublic(constructors[0].getModifiers()));
        for (Class<?> inner : ScanDetector.class.getDeclaredClasses()) {
            due.isTrue(inner + " is static and not public", Modifier.isStatic(inner.getModifiers())
                && !Modifier.isPublic(inner.getModifiers()) && !Modifier.isProtected(inner.getModifiers()));
        }
        noNameTwice(due);
        due.end();
    }

    private static void same(Due due, String what, Set<String> got, String[] listed) {
        Set<String> want = new TreeSet<>(Arrays.asList(listed));
        due.isTrue(what + ": " + got + ", due are " + want, got.equals(want));
    }

    private static Set<String> visibleMethods() {
        Set<String> found = new TreeSet<>();
        for (Method method : ScanDetector.class.getDeclaredMethods()) {
            if (!Modifier.isPrivate(method.getModifiers())) {
                String types = Arrays.toString(method.getParameterTypes());
                String modifiers = Modifier.toString(method.getModifiers()).replace("public", "").trim();
                found.add((modifiers + " " + method.getReturnType() + " " + method.getName()
                    + "(" + types.substring(1, types.length() - 1) + ")").trim());
            }
        }
        return found;
    }

    private static Set<String> visibleFields() throws IllegalAccessException {
        Set<String> found = new TreeSet<>();
        for (Field field : ScanDetector.class.getDeclaredFields()) {
            if (!Modifier.isPrivate(field.getModifiers())) {
                boolean constant = Modifier.toString(field.getModifiers()).equals("public static final")
                    && field.getType() == int.class;
                found.add(field.getName() + "=" + (constant ? field.getInt(null) : "not a constant"));
            }
        }
        return found;
    }

    /** LANGUAGE.md rule 1: no private method bears the name of a public one. */
    private static void noNameTwice(Due due) {
        Set<String> names = new TreeSet<>();
        for (String method : METHODS) {
            names.add(method.substring(method.indexOf(' ') + 1, method.indexOf('(')));
        }
        for (Method method : ScanDetector.class.getDeclaredMethods()) {
            due.isTrue("private " + method.getName() + " bears a public name",
                !Modifier.isPrivate(method.getModifiers()) || !names.contains(method.getName()));
        }
        for (Class<?> inner : ScanDetector.class.getDeclaredClasses()) {
            for (Method method : inner.getDeclaredMethods()) {
                due.isTrue(inner.getName() + "." + method.getName() + " bears a public name", !names.contains(method.getName()));
            }
        }
    }
}
