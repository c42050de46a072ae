import java.lang.reflect.Constructor;
import java.lang.reflect.Field;
import java.lang.reflect.Member;
import java.lang.reflect.Method;
import java.lang.reflect.Modifier;
import java.util.Set;
import java.util.TreeSet;

/** The public face: what the document lists is there, and nothing else. */
public final class FaceTest {
    private static final String NO_INDEX = "IndexOutOfBoundsException";
    private static final String WRONG = "IllegalArgumentException";
    private static final String NOT_NOW = "IllegalStateException";

    private FaceTest() {
    }

    private static String method(String type, String name, int ints, String... thrown) {
        StringBuilder text = new StringBuilder(type).append(' ').append(name).append('(');
        for (int i = 0; i < ints; i++) {
            text.append(i == 0 ? "int" : ", int");
        }
        return text.append(')').append(thrown.length == 0 ? "" : " throws " + String.join(", ", thrown)).toString();
    }

    private static Set<String> methodsOfTheDocument() {
        Set<String> all = new TreeSet<>();
        all.add(method("int", "owner", 4, WRONG, NOT_NOW));
        all.add(method("int", "sell", 4, NO_INDEX, WRONG));
        all.add(method("int", "lend", 4, NO_INDEX, WRONG, NOT_NOW));
        all.add(method("int", "die", 3, NO_INDEX, WRONG, NOT_NOW));
        all.add(method("int", "dig", 1, WRONG, NOT_NOW));
        all.add(method("int", "clean", 1, WRONG, NOT_NOW));
        all.add(method("int", "fall", 1, WRONG));
        all.add(method("int", "pump", 1, WRONG));
        all.add(method("int", "pollinate", 2, NO_INDEX, WRONG));
        all.add(method("int", "pollen", 3, NO_INDEX, WRONG));
        all.add(method("int", "ahead", 4, NO_INDEX, WRONG, NOT_NOW));
        all.add(method("int", "pass", 2, WRONG, NOT_NOW));
        all.add(method("int", "of", 2, NO_INDEX, WRONG));
        all.add(method("int", "ofBowl", 2, NO_INDEX, WRONG));
        all.add(method("int", "ofLoan", 2, NO_INDEX, WRONG));
        all.add(method("int", "ofSale", 2, NO_INDEX, WRONG));
        all.add(method("int", "many", 1, WRONG));
        all.add(method("double", "meanMoist", 0));
        all.add(method("int", "wouldCome", 3, NO_INDEX, WRONG));
        all.add(method("int", "bestDig", 2, WRONG));
        all.add(method("int", "pumpTakes", 3, WRONG));
        all.add(method("int", "wouldReap", 2, NO_INDEX, WRONG));
        all.add(method("long", "digest", 0));
        return all;
    }

    private static String text(Method method) {
        String[] thrown = new String[method.getExceptionTypes().length];
        for (int i = 0; i < thrown.length; i++) {
            thrown[i] = method.getExceptionTypes()[i].getSimpleName();
        }
        for (Class<?> type : method.getParameterTypes()) {
            Check.due("the arguments of " + method.getName(), type.getSimpleName(), "int");
        }
        return method(method.getReturnType().getSimpleName(), method.getName(), method.getParameterCount(), thrown);
    }

    private static void methods() {
        Set<String> got = new TreeSet<>();
        for (Method method : OasisBooks.class.getDeclaredMethods()) {
            if (Modifier.isPublic(method.getModifiers())) {
                got.add(text(method));
                Check.due(method.getName() + " is static", Modifier.isStatic(method.getModifiers()), false);
            }
        }
        Check.due("the public methods", String.join("; ", got), String.join("; ", methodsOfTheDocument()));
    }

    private static void constructor() {
        Constructor<?>[] all = OasisBooks.class.getDeclaredConstructors();
        Check.due("constructors", all.length, 1);
        Check.due("its arguments", all[0].getParameterCount(), 0);
        Check.due("what it throws", all[0].getExceptionTypes().length, 0);
        Check.due("it is public", Modifier.isPublic(all[0].getModifiers()), true);
    }

    private static void theClass() {
        int modifiers = OasisBooks.class.getModifiers();
        Check.due("it is public", Modifier.isPublic(modifiers), true);
        Check.due("it is final", Modifier.isFinal(modifiers), true);
        Check.due("its package", OasisBooks.class.getPackageName(), "");
        Check.due("what it extends", OasisBooks.class.getSuperclass().getSimpleName(), "Object");
        Check.due("what it implements", OasisBooks.class.getInterfaces().length, 0);
    }

    /** What javac adds by itself is not counted. */
    private static boolean isHidden(Member member) {
        return member.isSynthetic() || Modifier.isPrivate(member.getModifiers());
    }

    private static void nothingElse() {
        Set<String> face = new TreeSet<>();
        for (Method method : OasisBooks.class.getDeclaredMethods()) {
            if (Modifier.isPublic(method.getModifiers())) {
                face.add(method.getName());
            }
        }
        for (Method method : OasisBooks.class.getDeclaredMethods()) {
            boolean ofTheFace = Modifier.isPublic(method.getModifiers());
            Check.due(method.getName() + " is public or private", ofTheFace || isHidden(method), true);
            Check.due(method.getName() + " has a name of the face", face.contains(method.getName()), ofTheFace);
        }
        for (Field field : OasisBooks.class.getDeclaredFields()) {
            Check.due(field.getName() + " is private", isHidden(field), true);
            Check.due(field.getName() + " is final", Modifier.isFinal(field.getModifiers()), true);
        }
        for (Class<?> inside : OasisBooks.class.getDeclaredClasses()) {
            int modifiers = inside.getModifiers();
            Check.due(inside.getSimpleName() + " is public or protected",
                Modifier.isPublic(modifiers) || Modifier.isProtected(modifiers), false);
        }
    }

    public static void main(String[] args) {
        Check.that("the public face: a public final class", FaceTest::theClass);
        Check.that("the public face: the constructor", FaceTest::constructor);
        Check.that("the public face: each method with its exceptions", FaceTest::methods);
        Check.that("the public face: nothing else", FaceTest::nothingElse);
        Check.end();
    }
}
