/**
 * Each exception of each method (promises 2 to 16 and 18 to 21), at the edges that the document names,
 * and two at once: "A method that throws an exception changes nothing. If several exceptions apply,
 * the one that is named first is thrown."
 */
public final class RefusalsTest extends Edge {
    private static final Class<?> INDEX = Check.INDEX;
    private static final Class<?> ARGUMENT = Check.ARGUMENT;
    private static final Class<?> STATE_OF = Check.STATE;

    private static final int MIN = Integer.MIN_VALUE;
    private static final int MAX = Integer.MAX_VALUE;

    /** How many there are in the office that is lived in, and its DAY. */
    private static final int STEPS_THERE = 6;
    private static final int RIGHTS_THERE = 3;
    private static final int ORDERS_THERE = 5;
    private static final int SESSIONS_THERE = 3;
    private static final int JOINERS_THERE = 3;
    private static final int TODAY = 3;

    private static final int THE_FORM = 0;
    private static final int THE_KIT = 1;
    private static final int THE_COURSE = 2;
    private static final int THE_MEETING = 3;
    private static final int CAME_BEFORE = 0;
    private static final int TO_COME_YET = 1;
    private static final int CAME_TODAY = 3;
    private static final int ONE_WHO_LEFT = 1;
    private static final int ROLE_WITHOUT_STEPS = 3;

    public static void main(String[] args) {
        step();
        stepWhenThereAreTwelve();
        role();
        right();
        rightWhenThereAreSix();
        stock();
        order();
        orderWhenThereAreTwenty();
        late();
        session();
        sessionWhenThereAreTwenty();
        ofSession();
        ofItem();
        join();
        joinWhenThereAreEight();
        leave();
        day();
        ofStep();
        ofJoiner();
        many();
        rightOn();
        shiftBy();
        next();
        waitFor();
        onTheLastDay();
        inANewOffice();
        Check.end();
    }

    /** The last ORDER makes a COURSE known: the next that BOOKS would BOOK it, what is refused must not. */
    private static void liveIn(OnboardingWorks x) {
        form(x, 2, 7);
        kit(x, 1, 0, 0);
        course(x, 2, 1);
        meeting(x, 1);
        kit(x, 2, 2);
        course(x, 1, 2, 4);
        x.role(0, set(0, 1, 2, 3));
        x.role(1, set(3, 4));
        x.role(2, set(0, 4, 5));
        x.right(set(3));
        x.right(set(0, 1));
        x.right(set(5));
        x.stock(1, 2);
        x.order(0, 1, 2);
        x.order(0, 2, 9);
        x.order(1, 3, 199);
        x.order(3, 1, TODAY);
        x.session(2, 8, 1);
        x.session(2, 12, 2);
        x.session(5, 150, 1);
        x.join(0, 1);
        x.join(1, 1);
        x.join(2, 3);
        toDay(x, TODAY);
        x.leave(ONE_WHO_LEFT);
        x.order(2, 3, 20);
        due("what is known, and not BOOKED yet", x.ofStep(2, 5, BEGIN), 22);
        due("not BOOKED yet", x.ofStep(2, 5, BOOKED), NONE);
    }

    private static Twins livedIn() {
        Twins twins = new Twins();
        twins.both(RefusalsTest::liveIn);
        return twins;
    }

    private static Twins fullOf(String name, int there, int most, int... with) {
        Twins twins = livedIn();
        twins.both(x -> {
            for (int i = there; i < most; i++) {
                due("the last ones of " + name, Integer.parseInt(Calls.answer(x, name, with)), i);
            }
        });
        return twins;
    }

    /** One below, one above, and the numbers that are farthest off. */
    private static int[] outside(int least, int most) {
        return new int[] {least - 1, most + 1, MIN, MIN + 1, MAX - 1, MAX};
    }

    /** Below 0, or with a STEP that there is not. */
    private static int[] noSets(int steps) {
        return new int[] {-1, MIN, MIN + 1, 1 << steps, 1 << steps | 1, 1 << 12, 1 << 30, MAX};
    }

    private static void step() {
        Twins t = livedIn();
        for (int kind : outside(0, 3)) {
            t.refused("promise 2, kind is not 0 to 3", ARGUMENT, "step", kind, 1, 0, 0);
        }
        for (int length : outside(1, 9)) {
            t.refused("promise 2, length is not 1 to 9", ARGUMENT, "step", MEETING, length, 0, 0);
        }
        for (int needs : noSets(STEPS_THERE)) {
            t.refused("promise 2, needs is below 0, or has one not there", ARGUMENT,
                    "step", MEETING, 1, needs, 0);
        }
        for (int of : outside(0, 255)) {
            t.refused("promise 2, of is not 0 to 255, a FORM", ARGUMENT, "step", FORM, 1, 0, of);
        }
        for (int of : outside(0, 3)) {
            t.refused("promise 2, of is not 0 to 3, a KIT", ARGUMENT, "step", KIT, 1, 0, of);
        }
        t.goOnAlike("promise 2, refused STEPS");
    }

    private static void stepWhenThereAreTwelve() {
        Twins t = fullOf("step", STEPS_THERE, 12, MEETING, 1, 0, 0);
        for (int kind = FORM; kind <= MEETING; kind++) {
            t.refused("promise 2, there are 12", STATE_OF, "step", kind, 1, 4095, 0);
        }
        String first = "promise 2, named first with 12 there";
        t.refused(first, ARGUMENT, "step", 4, 1, 0, 0);
        t.refused(first, ARGUMENT, "step", MEETING, 10, 0, 0);
        t.refused(first, ARGUMENT, "step", MEETING, 1, -1, 0);
        t.refused(first, ARGUMENT, "step", MEETING, 1, 1 << 12, 0);
        t.refused(first, ARGUMENT, "step", FORM, 1, 0, 256);
        t.refused(first, ARGUMENT, "step", KIT, 1, 0, 4);
        t.goOnAlike("promise 2, a 13th STEP");
    }

    private static void role() {
        Twins t = livedIn();
        for (int role : outside(0, 3)) {
            t.refused("promise 3, no such ROLE", INDEX, "role", role, 1);
            t.refused("promise 3, no such ROLE is named first", INDEX, "role", role, -1);
        }
        for (int steps : noSets(STEPS_THERE)) {
            t.refused("promise 3, steps is below 0, or has one not there", ARGUMENT, "role", 0, steps);
            t.refused("promise 3, the same with the last ROLE", ARGUMENT, "role", 3, steps);
        }
        t.goOnAlike("promise 3, refused ROLES");
    }

    private static void right() {
        Twins t = livedIn();
        t.refused("promise 4, steps is below 1", ARGUMENT, "right", 0);
        for (int steps : noSets(STEPS_THERE)) {
            t.refused("promise 4, steps is below 1, or has one not there", ARGUMENT, "right", steps);
        }
        t.goOnAlike("promise 4, refused RIGHTS");
    }

    private static void rightWhenThereAreSix() {
        Twins t = fullOf("right", RIGHTS_THERE, 6, 1);
        t.refused("promise 4, there are 6", STATE_OF, "right", 1);
        t.refused("promise 4, there are 6", STATE_OF, "right", set(0, 1, 2, 3, 4, 5));
        t.refused("promise 4, named first with 6 there", ARGUMENT, "right", 0);
        t.refused("promise 4, named first with 6 there", ARGUMENT, "right", 1 << STEPS_THERE);
        t.goOnAlike("promise 4, a 7th RIGHT");
    }

    private static void stock() {
        Twins t = livedIn();
        for (int item : outside(0, 3)) {
            t.refused("promise 5, no such ITEM", INDEX, "stock", item, 1);
            t.refused("promise 5, no such ITEM is named first", INDEX, "stock", item, 0);
        }
        for (int many : outside(1, 20)) {
            t.refused("promise 5, many is not 1 to 20", ARGUMENT, "stock", 0, many);
        }
        t.goOnAlike("promise 5, refused STOCK");
    }

    private static void order() {
        Twins t = livedIn();
        for (int item : outside(0, 3)) {
            t.refused("promise 6, no such ITEM", INDEX, "order", item, 1, TODAY + 1);
            t.refused("promise 6, no such ITEM is named first", INDEX, "order", item, 0, TODAY);
        }
        for (int many : outside(1, 20)) {
            t.refused("promise 6, many is not 1 to 20", ARGUMENT, "order", 0, many, TODAY + 1);
        }
        for (int day : outside(TODAY + 1, 199)) {
            t.refused("promise 6, day is not above today, or above 199", ARGUMENT, "order", 0, 1, day);
        }
        t.refused("promise 6, day is not above today", ARGUMENT, "order", 0, 1, 0);
        t.goOnAlike("promise 6, refused ORDERS");
    }

    private static void orderWhenThereAreTwenty() {
        Twins t = fullOf("order", ORDERS_THERE, 20, 0, 1, 199);
        t.refused("promise 6, there are 20", STATE_OF, "order", 0, 1, TODAY + 1);
        t.refused("promise 6, there are 20", STATE_OF, "order", 3, 20, 199);
        t.refused("promise 6, named first with 20 there", INDEX, "order", 4, 1, TODAY + 1);
        t.refused("promise 6, named first with 20 there", INDEX, "order", -1, 21, TODAY);
        t.refused("promise 6, named first with 20 there", ARGUMENT, "order", 0, 21, TODAY + 1);
        t.refused("promise 6, named first with 20 there", ARGUMENT, "order", 0, 1, TODAY);
        t.refused("promise 6, named first with 20 there", ARGUMENT, "order", 0, 1, 200);
        t.goOnAlike("promise 6, a 21st ORDER");
    }

    private static void late() {
        laterDays(livedIn(), "promise 7", "late");
    }

    private static void shiftBy() {
        laterDays(livedIn(), "promise 19", "shiftBy");
    }

    private static void laterDays(Twins t, String promise, String name) {
        for (int order : outside(0, ORDERS_THERE - 1)) {
            t.refused(promise + ", no such ORDER", INDEX, name, order, 1);
            t.refused(promise + ", no such ORDER is named first", INDEX, name, order, 0);
        }
        for (int days : outside(1, 30)) {
            t.refused(promise + ", days is not 1 to 30", ARGUMENT, name, TO_COME_YET, days);
            t.refused(promise + ", that is named ahead of: it came", ARGUMENT, name, CAME_BEFORE, days);
        }
        t.refused(promise + ", it came today", STATE_OF, name, CAME_TODAY, 1);
        t.refused(promise + ", it came today", STATE_OF, name, CAME_TODAY, 30);
        t.refused(promise + ", it came before", STATE_OF, name, CAME_BEFORE, 1);
        t.refused(promise + ", it came before", STATE_OF, name, CAME_BEFORE, 30);
        t.goOnAlike(promise + ", refused " + name);
    }

    private static void session() {
        Twins t = livedIn();
        for (int step : outside(0, STEPS_THERE - 1)) {
            t.refused("promise 8, no such STEP", INDEX, "session", step, TODAY + 1, 1);
            t.refused("promise 8, no such STEP is named first", INDEX, "session", step, TODAY, 0);
        }
        for (int step : new int[] {THE_FORM, THE_KIT, THE_MEETING}) {
            t.refused("promise 8, that is no COURSE", ARGUMENT, "session", step, TODAY + 1, 1);
        }
        for (int day : outside(TODAY + 1, 199)) {
            t.refused("promise 8, day is not above today, or above 199", ARGUMENT,
                    "session", THE_COURSE, day, 1);
        }
        for (int seats : outside(1, 9)) {
            t.refused("promise 8, seats is not 1 to 9", ARGUMENT, "session", THE_COURSE, TODAY + 1, seats);
        }
        t.goOnAlike("promise 8, refused SESSIONS");
    }

    private static void sessionWhenThereAreTwenty() {
        Twins t = fullOf("session", SESSIONS_THERE, 20, THE_COURSE, 199, 9);
        t.refused("promise 8, there are 20", STATE_OF, "session", THE_COURSE, TODAY + 1, 1);
        t.refused("promise 8, there are 20", STATE_OF, "session", THE_COURSE, 199, 9);
        t.refused("promise 8, named first with 20 there", INDEX, "session", STEPS_THERE, TODAY + 1, 1);
        t.refused("promise 8, named first with 20 there", INDEX, "session", -1, TODAY, 0);
        t.refused("promise 8, named first with 20 there", ARGUMENT, "session", THE_MEETING, TODAY + 1, 1);
        t.refused("promise 8, named first with 20 there", ARGUMENT, "session", THE_COURSE, TODAY, 1);
        t.refused("promise 8, named first with 20 there", ARGUMENT, "session", THE_COURSE, 200, 1);
        t.refused("promise 8, named first with 20 there", ARGUMENT, "session", THE_COURSE, 199, 10);
        t.goOnAlike("promise 8, a 21st SESSION");
    }

    private static void ofSession() {
        Twins t = livedIn();
        for (int session : outside(0, SESSIONS_THERE - 1)) {
            t.refused("promise 9, no such SESSION", INDEX, "ofSession", session, 0);
            t.refused("promise 9, no such SESSION is named first", INDEX, "ofSession", session, 4);
        }
        for (int what : outside(0, 3)) {
            t.refused("promise 9, what is not 0 to 3", ARGUMENT, "ofSession", 0, what);
        }
        t.goOnAlike("promise 9, refused ofSession");
    }

    private static void ofItem() {
        Twins t = livedIn();
        for (int item : outside(0, 3)) {
            t.refused("promise 10, no such ITEM", INDEX, "ofItem", item, 0);
            t.refused("promise 10, no such ITEM is named first", INDEX, "ofItem", item, 4);
        }
        for (int what : outside(0, 3)) {
            t.refused("promise 10, what is not 0 to 3", ARGUMENT, "ofItem", 0, what);
        }
        t.goOnAlike("promise 10, refused ofItem");
    }

    private static void join() {
        Twins t = livedIn();
        for (int role : outside(0, 3)) {
            t.refused("promise 11, no such ROLE", INDEX, "join", role, TODAY + 1);
            t.refused("promise 11, no such ROLE is named first", INDEX, "join", role, TODAY);
        }
        for (int start : outside(TODAY + 1, 199)) {
            t.refused("promise 11, start is not above today, or above 199", ARGUMENT, "join", 0, start);
            t.refused("promise 11, that is named ahead of: the ROLE has no STEPS", ARGUMENT,
                    "join", ROLE_WITHOUT_STEPS, start);
        }
        t.refused("promise 11, the ROLE has no STEPS", STATE_OF, "join", ROLE_WITHOUT_STEPS, TODAY + 1);
        t.refused("promise 11, the ROLE has no STEPS", STATE_OF, "join", ROLE_WITHOUT_STEPS, 199);
        t.goOnAlike("promise 11, refused JOINERS");
    }

    private static void joinWhenThereAreEight() {
        Twins t = fullOf("join", JOINERS_THERE, 8, 0, 199);
        t.refused("promise 11, there are 8", STATE_OF, "join", 0, TODAY + 1);
        t.refused("promise 11, there are 8", STATE_OF, "join", 2, 199);
        t.refused("promise 11, there are 8, and no STEPS", STATE_OF, "join", ROLE_WITHOUT_STEPS, 199);
        t.refused("promise 11, named first with 8 there", INDEX, "join", 4, TODAY + 1);
        t.refused("promise 11, named first with 8 there", INDEX, "join", -1, TODAY);
        t.refused("promise 11, named first with 8 there", ARGUMENT, "join", 0, TODAY);
        t.refused("promise 11, named first with 8 there", ARGUMENT, "join", 0, 200);
        t.goOnAlike("promise 11, a 9th JOINER");
    }

    private static void leave() {
        Twins t = livedIn();
        for (int joiner : outside(0, JOINERS_THERE - 1)) {
            t.refused("promise 12, no such JOINER", INDEX, "leave", joiner);
        }
        t.refused("promise 12, it has LEFT", STATE_OF, "leave", ONE_WHO_LEFT);
        t.both(OnboardingWorks::day);
        t.refused("promise 12, it has LEFT on a DAY before", STATE_OF, "leave", ONE_WHO_LEFT);
        t.goOnAlike("promise 12, refused leave");
    }

    private static void day() {
        Twins t = new Twins();
        t.both(x -> {
            meeting(x, 1);
            meeting(x, 1, 0);
            joins(x, 198, 0, 1);
            joins(x, 1, 0, 1);
            x.order(0, 1, 199);
            x.late(0, 1);
            toDay(x, 199);
            x.leave(1);
        });
        t.refused("promise 13, it is DAY 199", STATE_OF, "day");
        t.refused("promise 13, it is DAY 199 still", STATE_OF, "day");
        t.both(x -> {
            dueOfSteps("promise 13, as on DAY 199", x, 0, STATE, DONE, RUNNING);
            dueOfSteps("promise 13, nothing is TAKEN BACK", x, 1, STATE, DONE, DONE);
            due("promise 13, the ORDER for DAY 200 never COMES", x.ofItem(0, STOCK), 0);
            due("promise 13, the DAY stays", x.many(10), 199);
        });
        t.goOnAlike("promise 13, a 200th DAY");
    }

    private static void ofStep() {
        Twins t = livedIn();
        for (int joiner : outside(0, JOINERS_THERE - 1)) {
            t.refused("promise 14, no such JOINER", INDEX, "ofStep", joiner, 0, 0);
            t.refused("promise 14, no such JOINER is named first", INDEX, "ofStep", joiner, 0, 6);
        }
        noStepOfIt(t, "promise 14", "ofStep", 0);
        t.refused("promise 14, no such STEP is named first", INDEX, "ofStep", 0, 4, 6);
        for (int what : outside(0, 5)) {
            t.refused("promise 14, what is not 0 to 5", ARGUMENT, "ofStep", 0, 0, what);
            t.refused("promise 14, the same of one who has LEFT", ARGUMENT,
                    "ofStep", ONE_WHO_LEFT, THE_MEETING, what);
        }
        t.goOnAlike("promise 14, refused ofStep");
    }

    /** JOINER 0 has the STEPS 0 to 3; a shift by 32 or 64 must not lead to one of them. */
    private static void noStepOfIt(Twins t, String promise, String name, int... behind) {
        int[] with = new int[2 + behind.length];
        for (int step : new int[] {-32, -1, 4, 5, 6, 11, 12, 13, 31, 32, 33, 64, MIN, MIN + 1, MAX}) {
            with[1] = step;
            t.refused(promise + ", that has no such STEP", INDEX, name, with);
        }
        with[0] = ONE_WHO_LEFT;
        for (int step : new int[] {0, 1, 2}) {
            with[1] = step;
            t.refused(promise + ", a STEP of others", INDEX, name, with);
        }
    }

    private static void ofJoiner() {
        Twins t = livedIn();
        for (int joiner : outside(0, JOINERS_THERE - 1)) {
            t.refused("promise 15, no such JOINER", INDEX, "ofJoiner", joiner, 0);
            t.refused("promise 15, no such JOINER is named first", INDEX, "ofJoiner", joiner, 7);
        }
        for (int what : outside(0, 6)) {
            t.refused("promise 15, what is not 0 to 6", ARGUMENT, "ofJoiner", 0, what);
            t.refused("promise 15, the same of one who has LEFT", ARGUMENT, "ofJoiner", ONE_WHO_LEFT, what);
        }
        t.goOnAlike("promise 15, refused ofJoiner");
    }

    private static void many() {
        Twins t = livedIn();
        for (int what : outside(0, 10)) {
            t.refused("promise 16, what is not 0 to 10", ARGUMENT, "many", what);
        }
        t.goOnAlike("promise 16, refused many");
    }

    private static void rightOn() {
        Twins t = livedIn();
        for (int joiner : outside(0, JOINERS_THERE - 1)) {
            t.refused("promise 18, no such JOINER", INDEX, "rightOn", joiner, 0);
        }
        for (int right : outside(0, RIGHTS_THERE - 1)) {
            t.refused("promise 18, no such RIGHT", INDEX, "rightOn", 0, right);
            t.refused("promise 18, no such RIGHT, of one who has LEFT", INDEX, "rightOn", ONE_WHO_LEFT, right);
            t.refused("promise 18, neither", INDEX, "rightOn", JOINERS_THERE, right);
        }
        t.goOnAlike("promise 18, refused rightOn");
    }

    private static void next() {
        Twins t = livedIn();
        for (int joiner : outside(0, JOINERS_THERE - 1)) {
            t.refused("promise 20, no such JOINER", INDEX, "next", joiner);
        }
        t.goOnAlike("promise 20, refused next");
    }

    private static void waitFor() {
        Twins t = livedIn();
        for (int joiner : outside(0, JOINERS_THERE - 1)) {
            t.refused("promise 21, no such JOINER", INDEX, "waitFor", joiner, 0);
            t.refused("promise 21, neither JOINER nor STEP", INDEX, "waitFor", joiner, -1);
        }
        noStepOfIt(t, "promise 21", "waitFor");
        t.goOnAlike("promise 21, refused waitFor");
    }

    /** On DAY 199 no day is above today and not above 199. */
    private static void onTheLastDay() {
        Twins t = livedIn();
        t.both(x -> toDay(x, 199));
        for (int day : new int[] {0, 198, 199, 200, 201}) {
            t.refused("promise 6, on DAY 199", ARGUMENT, "order", 0, 1, day);
            t.refused("promise 8, on DAY 199", ARGUMENT, "session", THE_COURSE, day, 1);
            t.refused("promise 11, on DAY 199", ARGUMENT, "join", 0, day);
        }
        t.refused("promise 7, it came on DAY 199", STATE_OF, "late", 2, 1);
        t.refused("promise 19, it came on DAY 199", STATE_OF, "shiftBy", 2, 1);
        t.goOnAlike("promises 6 to 11, on DAY 199");
    }

    /** Where there is nothing, there is no number 0. */
    private static void inANewOffice() {
        Twins t = new Twins();
        for (String name : new String[] {"late", "shiftBy", "ofSession", "ofJoiner", "rightOn", "waitFor"}) {
            t.refused("promise 1, a new object", INDEX, name, 0, 0);
        }
        t.refused("promise 1, a new object", INDEX, "leave", 0);
        t.refused("promise 1, a new object", INDEX, "next", 0);
        t.refused("promise 1, a new object", INDEX, "ofStep", 0, 0, 0);
        t.refused("promise 1, no STEPS", INDEX, "session", 0, 1, 1);
        t.refused("promise 1, no STEPS", ARGUMENT, "role", 0, 1);
        t.refused("promise 1, no STEPS", ARGUMENT, "right", 1);
        t.refused("promise 1, no STEPS", ARGUMENT, "step", MEETING, 1, 1, 0);
        for (int role = 0; role <= 3; role++) {
            t.refused("promise 1, a ROLE has no STEPS", STATE_OF, "join", role, 1);
        }
        t.goOnAlike("promise 1, a new object");
    }
}
