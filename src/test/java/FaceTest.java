import java.lang.reflect.Constructor;
import java.lang.reflect.Field;
import java.lang.reflect.Member;
import java.lang.reflect.Method;
import java.lang.reflect.Modifier;
import java.util.Set;
import java.util.TreeSet;

/** The public face of the document, and rule 1 of LANGUAGE.md. */
public final class FaceTest {
    private static final String[] CONSTANTS = {"NO_SUCH", "BAD_VALUE", "BAD_TEXT", "TOO_MANY", "NOT_POSSIBLE", "NONE",
        "SPEED", "LATE", "GUESS", "PLACE", "LABEL", "SLACK", "FEED", "NEAR"};
    private static final int[] VALUES = {-1, -2, -3, -4, -5, -6, 0, 1, 2, 3, 4, 5, 6, 7};
    private static final String[] METHODS = {"set(int,int)", "arrive(int)", "turn(int,int)", "pass(int)",
        "box(int,int)", "plan(int)", "report(int,int)", "count(int)", "ifPass(int,int)", "bestGuess(int,int)",
        "neededSlack(int)", "put(long)", "wipe()", "fault()", "carryOut()", "undo()", "save(int)", "restore(int)"};

    public static void main(String[] args) throws IllegalAccessException, NoSuchFieldException {
        Class<?> face = BeltMarks.class;
        Due.is("modifiers of the class", face.getModifiers(), Modifier.PUBLIC | Modifier.FINAL);
        constantsAreTheDocuments(face);
        methodsAreTheDocuments(face);
        Constructor<?>[] constructors = face.getDeclaredConstructors();
        Due.is("constructors", constructors.length, 1);
        Due.is("its modifiers", constructors[0].getModifiers(), Modifier.PUBLIC);
        Due.is("its parameters", constructors[0].getParameterCount(), 0);
        for (Class<?> inside : face.getDeclaredClasses()) {
            boolean plain = Modifier.isStatic(inside.getModifiers())
                && !Modifier.isPublic(inside.getModifiers()) && !Modifier.isProtected(inside.getModifiers());
            Due.isTrue(inside.getName() + " is static and no part of the face", plain);
            noPrivateMethodBearsAPublicName(inside);
        }
        Due.end();
    }

    private static boolean isHidden(Member member) {
        return Modifier.isPrivate(member.getModifiers());
    }

    private static void constantsAreTheDocuments(Class<?> face) throws IllegalAccessException, NoSuchFieldException {
        int open = Modifier.PUBLIC | Modifier.STATIC | Modifier.FINAL;
        for (int i = 0; i < CONSTANTS.length; i++) {
            Field field = face.getDeclaredField(CONSTANTS[i]);
            Due.is(CONSTANTS[i] + ": modifiers", field.getModifiers(), open);
            Due.isTrue(CONSTANTS[i] + ": an int", field.getType() == int.class);
            Due.is(CONSTANTS[i], field.getInt(null), VALUES[i]);
        }
        int seen = 0;
        for (Field field : face.getDeclaredFields()) {
            seen += isHidden(field) ? 0 : 1;
        }
        Due.is("fields that can be seen", seen, CONSTANTS.length);
    }

    private static void methodsAreTheDocuments(Class<?> face) {
        Set<String> found = new TreeSet<>();
        for (Method method : face.getDeclaredMethods()) {
            if (!isHidden(method)) {
                Due.is(method.getName() + ": modifiers", method.getModifiers(), Modifier.PUBLIC);
                Due.isTrue(method.getName() + " returns int", method.getReturnType() == int.class);
                found.add(written(method));
            } else {
                Due.isTrue(method.getName() + " is no public name", !isPublicName(method.getName()));
            }
        }
        Due.isTrue("the methods are " + found, found.equals(new TreeSet<>(Set.of(METHODS))));
    }

    private static void noPrivateMethodBearsAPublicName(Class<?> inside) {
        for (Method method : inside.getDeclaredMethods()) {
            if (!isHidden(method)) {
                continue;
            }
            Due.isTrue(inside.getName() + "." + method.getName() + " is no public name", !isPublicName(method.getName()));
        }
    }

    private static boolean isPublicName(String name) {
        for (String method : METHODS) {
            if (method.startsWith(name + "(")) {
                return true;
            }
        }
        return false;
    }

    private static String written(Method method) {
        StringBuilder text = new StringBuilder(method.getName()).append('(');
        String between = "";
        for (Class<?> parameter : method.getParameterTypes()) {
            text.append(between).append(parameter.getName());
            between = ",";
        }
        return text.append(')').toString();
    }
}
