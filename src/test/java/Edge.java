/** Short words for the tests that stand for one sentence of the document each. */
abstract class Edge {
    static final int NONE = -1;

    static final int FORM = 0;
    static final int KIT = 1;
    static final int COURSE = 2;
    static final int MEETING = 3;

    static final int OPEN = 0;
    static final int RUNNING = 1;
    static final int DONE = 2;
    static final int TAKEN_BACK = 3;

    /** What ofStep() is asked for. */
    static final int STATE = 0;
    static final int BEGIN = 1;
    static final int END = 2;
    static final int BOOKED = 3;
    static final int LONG = 4;
    static final int LOST = 5;

    /** What ofItem() is asked for. */
    static final int STOCK = 0;
    static final int TO_COME = 1;
    static final int EARLIEST = 2;
    static final int WAITING = 3;

    /** What ofSession() is asked for, of its SEATS. */
    static final int TAKEN = 3;

    /** What ofJoiner() is asked for. */
    static final int STEPS = 0;
    static final int START = 1;
    static final int HOW_MANY_DONE = 2;
    static final int HOW_MANY_RUNNING = 3;
    static final int RIGHTS = 4;
    static final int HAS_LEFT = 5;
    static final int LAST_END = 6;

    static int form(OnboardingWorks x, int length, int fields, int... needs) {
        return x.step(FORM, length, set(needs), fields);
    }

    static int kit(OnboardingWorks x, int length, int item, int... needs) {
        return x.step(KIT, length, set(needs), item);
    }

    static int course(OnboardingWorks x, int length, int... needs) {
        return x.step(COURSE, length, set(needs), 0);
    }

    static int meeting(OnboardingWorks x, int length, int... needs) {
        return x.step(MEETING, length, set(needs), 0);
    }

    /** Somebody with just these STEPS joins, with ROLE 0. */
    static int joins(OnboardingWorks x, int start, int... steps) {
        x.role(0, set(steps));
        return x.join(0, start);
    }

    static int set(int... members) {
        int set = 0;
        for (int member : members) {
            set |= 1 << member;
        }
        return set;
    }

    static void toDay(OnboardingWorks x, int day) {
        for (int d = x.many(10); d < day; d++) {
            x.day();
        }
    }

    static void due(String sentence, long got, long want) {
        Check.due(sentence, got, want);
    }

    /** What ofStep() answers for STEP 0, 1 and so on. */
    static void dueOfSteps(String sentence, OnboardingWorks x, int joiner, int what, int... want) {
        for (int step = 0; step < want.length; step++) {
            String call = sentence + ": ofStep(" + joiner + ", " + step + ", " + what + ")";
            Check.due(call, x.ofStep(joiner, step, what), want[step]);
        }
    }
}
