import java.lang.reflect.Constructor;
import java.lang.reflect.Field;
import java.lang.reflect.Member;
import java.lang.reflect.Method;
import java.lang.reflect.Modifier;
import java.util.Arrays;
import java.util.Set;
import java.util.TreeSet;
import java.util.stream.Collectors;

/** The public face of the document with what it throws, and nothing beside it. */
public final class FaceTest {
    private static final String INDEX = "IndexOutOfBoundsException";
    private static final String ARGUMENT = "IllegalArgumentException";
    private static final String STATE = "IllegalStateException";
    private static final String INDEX_ARGUMENT = INDEX + "," + ARGUMENT;
    private static final String INDEX_STATE = INDEX + "," + STATE;
    private static final String ARGUMENT_STATE = ARGUMENT + "," + STATE;
    private static final String ALL_THREE = INDEX + "," + ARGUMENT + "," + STATE;

    private static final String[] FACE = {
        "int step(int,int,int,int) throws " + ARGUMENT_STATE, "int role(int,int) throws " + INDEX_ARGUMENT,
        "int right(int) throws " + ARGUMENT_STATE, "int stock(int,int) throws " + INDEX_ARGUMENT,
        "int order(int,int,int) throws " + ALL_THREE, "int late(int,int) throws " + ALL_THREE,
        "int session(int,int,int) throws " + ALL_THREE, "int ofSession(int,int) throws " + INDEX_ARGUMENT,
        "int ofItem(int,int) throws " + INDEX_ARGUMENT, "int join(int,int) throws " + ALL_THREE,
        "int leave(int) throws " + INDEX_STATE, "int day() throws " + STATE,
        "int ofStep(int,int,int) throws " + INDEX_ARGUMENT, "int ofJoiner(int,int) throws " + INDEX_ARGUMENT,
        "int many(int) throws " + ARGUMENT, "double meanDays()", "int rightOn(int,int) throws " + INDEX,
        "int shiftBy(int,int) throws " + ALL_THREE, "int next(int) throws " + INDEX,
        "int waitFor(int,int) throws " + INDEX, "long digest()"
    };

    public static void main(String[] args) {
        Class<?> type = OnboardingWorks.class;
        Check.due("public and final", type.getModifiers(), Modifier.PUBLIC | Modifier.FINAL);
        Set<String> methods = new TreeSet<>();
        Set<String> names = new TreeSet<>();
        for (Method method : type.getDeclaredMethods()) {
            if (isSeen(method)) {
                names.add(method.getName());
                methods.add(text(method));
            }
        }
        Set<String> due = new TreeSet<>(Arrays.asList(FACE));
        if (!methods.equals(due)) {
            Check.tell("the face is " + methods + ", due is " + due);
        }
        for (Method method : type.getDeclaredMethods()) {
            if (!isSeen(method) && names.contains(method.getName())) {
                Check.tell("a hidden method bears the public name " + method.getName());
            }
        }
        for (Field field : type.getDeclaredFields()) {
            if (isSeen(field)) {
                Check.tell("a field is seen from outside: " + field.getName());
            }
        }
        for (Constructor<?> made : type.getDeclaredConstructors()) {
            Check.due("the constructor's parameters", made.getParameterCount(), 0);
            Check.due("the constructor is public", made.getModifiers(), Modifier.PUBLIC);
        }
        Check.end();
    }

    private static boolean isSeen(Member member) {
        return !member.isSynthetic() && !Modifier.isPrivate(member.getModifiers());
    }

    private static String text(Method method) {
        String thrown = names(method.getExceptionTypes());
        return method.getReturnType().getName() + " " + method.getName()
                + "(" + names(method.getParameterTypes()) + ")" + (thrown.isEmpty() ? "" : " throws " + thrown);
    }

    private static String names(Class<?>[] types) {
        return Arrays.stream(types).map(Class::getSimpleName).collect(Collectors.joining(","));
    }
}
