import java.lang.reflect.Constructor;
import java.lang.reflect.Field;
import java.lang.reflect.Method;
import java.lang.reflect.Modifier;
import java.util.Arrays;
import java.util.Set;
import java.util.TreeSet;

/** The face is the document's and nothing more, and the file keeps to what a look can tell. */
public final class FaceTests {
    private static final String[] FACE = {
        "boolean isPlaying()",
        "int best() throws IllegalStateException",
        "int bestCard() throws IllegalStateException",
        "int cardAt(int,int) throws IndexOutOfBoundsException",
        "int cards(int) throws IndexOutOfBoundsException",
        "int choices()",
        "int deal(long)",
        "int gloves(int) throws IndexOutOfBoundsException",
        "int led()",
        "int pile()",
        "int placeOf(int) throws IllegalArgumentException",
        "int play(int) throws IllegalArgumentException,IllegalStateException",
        "int points(int) throws IndexOutOfBoundsException",
        "int putOnGloves() throws IllegalStateException",
        "int tricks(int) throws IndexOutOfBoundsException",
        "int trumps()",
        "int turn()",
        "int whyNot(int) throws IllegalArgumentException",
        "int wonByFirst()",
        "int wonBySecond()",
        "int wouldTake(int) throws IllegalArgumentException,IllegalStateException",
    };

    private FaceTests() {
    }

    public static void main(String[] args) {
        theClass();
        theMethods();
        noOtherMembers();
        Checks.end("FaceTests");
    }

    private static void theClass() {
        int marks = ArchivistTricks.class.getModifiers();
        Checks.due("public", true, Modifier.isPublic(marks));
        Checks.due("final", true, Modifier.isFinal(marks));
        Checks.due("in no package", true, ArchivistTricks.class.getPackageName().isEmpty());
        Constructor<?>[] made = ArchivistTricks.class.getDeclaredConstructors();
        Checks.due("constructors", 1, made.length);
        Checks.due("no parameters", 0, made[0].getParameterCount());
        Checks.due("a public constructor", true, Modifier.isPublic(made[0].getModifiers()));
    }

    private static void theMethods() {
        Set<String> want = new TreeSet<>(Arrays.asList(FACE));
        Set<String> got = new TreeSet<>();
        for (Method method : ArchivistTricks.class.getDeclaredMethods()) {
            if (!Modifier.isPrivate(method.getModifiers())) {
                Checks.due(method + ": public and of an object", true,
                        (method.getModifiers() & ~Modifier.FINAL) == Modifier.PUBLIC);
                got.add(written(method));
            }
        }
        Checks.judge(want.equals(got), "the methods are " + got + ", due are " + want);
    }

    private static String written(Method method) {
        String parameters = names(method.getParameterTypes());
        String thrown = names(method.getExceptionTypes());
        return method.getReturnType().getSimpleName() + " " + method.getName()
                + "(" + parameters + ")" + (thrown.isEmpty() ? "" : " throws " + thrown);
    }

    private static String names(Class<?>[] types) {
        StringBuilder names = new StringBuilder();
        for (Class<?> type : types) {
            names.append(names.length() == 0 ? "" : ",").append(type.getSimpleName());
        }
        return names.toString();
    }

    private static void noOtherMembers() {
        Set<String> open = new TreeSet<>();
        for (Method method : ArchivistTricks.class.getDeclaredMethods()) {
            if (Modifier.isPublic(method.getModifiers())) {
                open.add(method.getName());
            }
        }
        hidesAll(ArchivistTricks.class);
        for (Method method : ArchivistTricks.class.getDeclaredMethods()) {
            Checks.due(method + ": no private method bears a public one's name", false,
                    Modifier.isPrivate(method.getModifiers()) && open.contains(method.getName()));
        }
        for (Class<?> inside : ArchivistTricks.class.getDeclaredClasses()) {
            Checks.due(inside + ": static", true, Modifier.isStatic(inside.getModifiers()));
            Checks.due(inside + ": not public", false, Modifier.isPublic(inside.getModifiers()));
            finalStatics(inside);
        }
    }

    private static void hidesAll(Class<?> type) {
        for (Field field : type.getDeclaredFields()) {
            Checks.due(field + ": private", true, Modifier.isPrivate(field.getModifiers()));
        }
        finalStatics(type);
    }

    private static void finalStatics(Class<?> type) {
        for (Field field : type.getDeclaredFields()) {
            boolean loose = Modifier.isStatic(field.getModifiers())
                    && !Modifier.isFinal(field.getModifiers());
            Checks.due(field + ": static and not final", false, loose);
        }
    }
}
