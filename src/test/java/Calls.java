import java.lang.reflect.InvocationTargetException;
import java.util.Arrays;

/** Calls told by their names: of the class, or of NaiveOffice. */
final class Calls {
    private Calls() {
    }

    /** What the call answers, or the name of the exception that it throws. */
    static String answer(Object office, String name, int... with) {
        Class<?>[] types = new Class<?>[with.length];
        Arrays.fill(types, int.class);
        Object[] values = Arrays.stream(with).boxed().toArray();
        try {
            return String.valueOf(office.getClass().getDeclaredMethod(name, types).invoke(office, values));
        } catch (InvocationTargetException e) {
            return e.getCause().getClass().getSimpleName();
        } catch (ReflectiveOperationException e) {
            throw new IllegalArgumentException("no such call: " + text(name, with), e);
        }
    }

    static String text(String name, int... with) {
        return name + Arrays.toString(with).replace('[', '(').replace(']', ')');
    }
}
