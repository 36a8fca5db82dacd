import java.lang.reflect.Constructor;
import java.lang.reflect.Field;
import java.lang.reflect.Member;
import java.lang.reflect.Method;
import java.lang.reflect.Modifier;
import java.util.Arrays;
import java.util.Set;
import java.util.TreeSet;

/** The public face of the document, and nothing beside it. */
public final class FaceTest {
    private static final String[] FACE = {
        "int step(int,int,int,int)", "int role(int,int)", "int right(int)", "int stock(int,int)",
        "int order(int,int,int)", "int late(int,int)", "int session(int,int,int)",
        "int ofSession(int,int)", "int ofItem(int,int)", "int join(int,int)", "int leave(int)",
        "int day()", "int ofStep(int,int,int)", "int ofJoiner(int,int)", "int many(int)",
        "double meanDays()", "int rightOn(int,int)", "int shiftBy(int,int)", "int next(int)",
        "int waitFor(int,int)", "long digest()"
    };

    public static void main(String[] args) {
        Class<?> type = OnboardingWorks.class;
        Check.due("public and final", type.getModifiers(), Modifier.PUBLIC | Modifier.FINAL);
        Set<String> methods = new TreeSet<>();
        Set<String> names = new TreeSet<>();
        for (Method method : type.getDeclaredMethods()) {
            if (isSeen(method)) {
                names.add(method.getName());
                methods.add(text(method));
            }
        }
        Set<String> due = new TreeSet<>(Arrays.asList(FACE));
        if (!methods.equals(due)) {
            Check.tell("the face is " + methods + ", due is " + due);
        }
        for (Method method : type.getDeclaredMethods()) {
            if (!isSeen(method) && names.contains(method.getName())) {
                Check.tell("a hidden method bears the public name " + method.getName());
            }
        }
        for (Field field : type.getDeclaredFields()) {
            if (isSeen(field)) {
                Check.tell("a field is seen from outside: " + field.getName());
            }
        }
        for (Constructor<?> made : type.getDeclaredConstructors()) {
            Check.due("the constructor's parameters", made.getParameterCount(), 0);
            Check.due("the constructor is public", made.getModifiers(), Modifier.PUBLIC);
        }
        Check.end();
    }

    private static boolean isSeen(Member member) {
        return !member.isSynthetic() && !Modifier.isPrivate(member.getModifiers());
    }

    private static String text(Method method) {
        StringBuilder parameters = new StringBuilder();
        for (Class<?> parameter : method.getParameterTypes()) {
            parameters.append(parameters.length() == 0 ? "" : ",").append(parameter.getName());
        }
        return method.getReturnType().getName() + " " + method.getName() + "(" + parameters + ")";
    }
}
