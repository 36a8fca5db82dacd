import java.util.function.Consumer;

/**
 * Two offices that are told the same, but for the calls that must be refused: those go to the first
 * alone. What digest() does not tell (ROLES, LENGTHS, single ORDERS ..) shows as both go on alike.
 */
final class Twins {
    /** The document speaks of 512; what both are told here takes fewer than 112. */
    private static final int CALLS_AT_MOST = 400;

    private final OnboardingWorks tried = new OnboardingWorks();
    private final OnboardingWorks spared = new OnboardingWorks();
    private long digest = tried.digest();
    private int calls;

    void both(Consumer<OnboardingWorks> told) {
        told.accept(tried);
        told.accept(spared);
        digest = tried.digest();
        Check.due("twins told the same", spared.digest(), digest);
    }

    void refused(String sentence, Class<?> want, String name, int... with) {
        calls += 2;
        String call = sentence + ": " + Calls.text(name, with);
        String got = Calls.answer(tried, name, with);
        if (!got.equals(want.getSimpleName())) {
            Check.tell(call + " answered " + got + ", due is " + want.getSimpleName());
        }
        Check.due(call + " must change nothing: digest()", tried.digest(), digest);
    }

    /** "A method that throws an exception changes nothing": all that is left is alike, up to the last DAY. */
    void goOnAlike(String sentence) {
        for (int order = 0; order < 20; order++) {
            alike(sentence, "late", order, 1);
        }
        for (int role = 0; role < 4; role++) {
            int steps = Integer.parseInt(alike(sentence, "role", role, 0));
            alike(sentence, "role", role, steps);
            alike(sentence, "join", role, tried.many(10) + 1);
        }
        alike(sentence, "step", 3, 1, 0, 0);
        alike(sentence, "right", 1);
        for (int day = tried.many(10); day <= 199; day++) {
            alike(sentence, "day");
            if (day < 20 || day % 10 == 0) {
                alike(sentence, "digest");
            }
        }
        if (calls > CALLS_AT_MOST) {
            Check.tell(sentence + ": " + calls + " calls on one object are too many");
        }
    }

    private String alike(String sentence, String name, int... with) {
        calls++;
        String got = Calls.answer(tried, name, with);
        String want = Calls.answer(spared, name, with);
        if (!got.equals(want)) {
            Check.tell(sentence + ", then " + Calls.text(name, with) + " answered " + got
                    + ", without the refused calls " + want);
        }
        return got;
    }
}
