/** An office where people join: steps, rights, kit, courses, and who is where on which day. */
public final class OnboardingWorks {
    private static final int NONE = -1;
    private static final int LAST_DAY = 199;

    private static final int MAX_STEPS = 12;
    private static final int MAX_RIGHTS = 6;
    private static final int MAX_ORDERS = 20;
    private static final int MAX_SESSIONS = 20;
    private static final int MAX_JOINERS = 8;
    private static final int ROLES = 4;
    private static final int ITEMS = 4;

    private static final int MAX_LENGTH = 9;
    private static final int MAX_SEATS = 9;
    private static final int MAX_PIECES = 20;
    private static final int MAX_DELAY = 30;
    private static final int ALL_FIELDS = 255;

    private static final int FORM = 0;
    private static final int KIT = 1;
    private static final int COURSE = 2;
    private static final int MEETING = 3;

    private static final int OPEN = 0;
    private static final int RUNNING = 1;
    private static final int DONE = 2;
    private static final int TAKEN_BACK = 3;

    private static final int LAST_OF_SESSION = 3;
    private static final int LAST_OF_ITEM = 3;
    private static final int LAST_OF_STEP = 5;
    private static final int LAST_OF_JOINER = 6;
    private static final int LAST_OF_MANY = 10;
    private static final long DIGEST_START = 58120L;

    private final Plan plan;
    private final Storeroom storeroom;
    private final Timetable timetable;
    private final Forecast forecast;
    private final Joiner[] joiners;
    private int joinerCount;
    private int today;

    public OnboardingWorks() {
        plan = new Plan();
        storeroom = new Storeroom();
        timetable = new Timetable();
        forecast = new Forecast(plan, storeroom, timetable);
        joiners = new Joiner[MAX_JOINERS];
        for (int j = 0; j < MAX_JOINERS; j++) {
            joiners[j] = new Joiner();
        }
    }

    // ---- steps, roles and rights

    public int step(int kind, int length, int needs, int of)
            throws IllegalArgumentException, IllegalStateException {
        if (!isWithin(kind, FORM, MEETING) || !isWithin(length, 1, MAX_LENGTH)
                || !plan.knows(needs) || !isOfKind(kind, of)) {
            throw new IllegalArgumentException("no STEP can be so");
        }
        int number = plan.addStep(kind, length, needs, of);
        if (number == NONE) {
            throw new IllegalStateException("there are all STEPS that can be");
        }
        return number;
    }

    public int role(int role, int steps)
            throws IndexOutOfBoundsException, IllegalArgumentException {
        if (role < 0 || role >= ROLES) {
            throw new IndexOutOfBoundsException("no such ROLE");
        }
        if (!plan.knows(steps)) {
            throw new IllegalArgumentException("no such set of STEPS");
        }
        int before = plan.roles[role];
        plan.roles[role] = steps;
        return before;
    }

    public int right(int steps) throws IllegalArgumentException, IllegalStateException {
        if (steps < 1 || !plan.knows(steps)) {
            throw new IllegalArgumentException("no such set of STEPS");
        }
        int number = plan.addRight(steps);
        if (number == NONE) {
            throw new IllegalStateException("there are all RIGHTS that can be");
        }
        return number;
    }

    // ---- kit and courses

    public int stock(int item, int many)
            throws IndexOutOfBoundsException, IllegalArgumentException {
        if (item < 0 || item >= ITEMS) {
            throw new IndexOutOfBoundsException("no such ITEM");
        }
        if (!isWithin(many, 1, MAX_PIECES)) {
            throw new IllegalArgumentException("not so many at once");
        }
        storeroom.putIn(item, many);
        return storeroom.pieces[item];
    }

    public int order(int item, int many, int day)
            throws IndexOutOfBoundsException, IllegalArgumentException, IllegalStateException {
        if (item < 0 || item >= ITEMS) {
            throw new IndexOutOfBoundsException("no such ITEM");
        }
        if (!isWithin(many, 1, MAX_PIECES) || !isAhead(day)) {
            throw new IllegalArgumentException("no ORDER can be so");
        }
        int number = storeroom.addOrder(item, many, day);
        if (number == NONE) {
            throw new IllegalStateException("there are all ORDERS that can be");
        }
        return number;
    }

    public int late(int order, int days)
            throws IndexOutOfBoundsException, IllegalArgumentException, IllegalStateException {
        checkDelay(order, days);
        return storeroom.delay(order, days);
    }

    public int session(int step, int day, int seats)
            throws IndexOutOfBoundsException, IllegalArgumentException, IllegalStateException {
        if (step < 0 || step >= plan.stepCount) {
            throw new IndexOutOfBoundsException("no such STEP");
        }
        if (plan.kinds[step] != COURSE || !isAhead(day) || !isWithin(seats, 1, MAX_SEATS)) {
            throw new IllegalArgumentException("no SESSION can be so");
        }
        int number = timetable.addSession(step, day, seats);
        if (number == NONE) {
            throw new IllegalStateException("there are all SESSIONS that can be");
        }
        bookAll();
        return number;
    }

    public int ofSession(int session, int what)
            throws IndexOutOfBoundsException, IllegalArgumentException {
        if (session < 0 || session >= timetable.sessionCount) {
            throw new IndexOutOfBoundsException("no such SESSION");
        }
        if (!isWithin(what, 0, LAST_OF_SESSION)) {
            throw new IllegalArgumentException("nothing of a SESSION is told so");
        }
        switch (what) {
            case 0:
                return timetable.courses[session];
            case 1:
                return timetable.days[session];
            case 2:
                return timetable.seats[session];
            default:
                return timetable.taken[session];
        }
    }

    public int ofItem(int item, int what)
            throws IndexOutOfBoundsException, IllegalArgumentException {
        if (item < 0 || item >= ITEMS) {
            throw new IndexOutOfBoundsException("no such ITEM");
        }
        if (!isWithin(what, 0, LAST_OF_ITEM)) {
            throw new IllegalArgumentException("nothing of an ITEM is told so");
        }
        switch (what) {
            case 0:
                return storeroom.pieces[item];
            case 1:
                return storeroom.piecesToCome(item, today);
            case 2:
                return storeroom.earliestToCome(item, today, NONE, 0);
            default:
                return countWaitingFor(item);
        }
    }

    // ---- joiners

    public int join(int role, int start)
            throws IndexOutOfBoundsException, IllegalArgumentException, IllegalStateException {
        if (role < 0 || role >= ROLES) {
            throw new IndexOutOfBoundsException("no such ROLE");
        }
        if (!isAhead(start)) {
            throw new IllegalArgumentException("nobody can START then");
        }
        if (joinerCount >= MAX_JOINERS || plan.roles[role] == 0) {
            throw new IllegalStateException("nobody can join with that ROLE");
        }
        int number = joinerCount;
        joinerCount++;
        Joiner joiner = joinerAt(number);
        joiner.steps = plan.roles[role];
        joiner.start = start;
        bookAll();
        return number;
    }

    public int leave(int joiner) throws IndexOutOfBoundsException, IllegalStateException {
        Joiner leaver = joinerAt(joiner);
        if (leaver.left) {
            throw new IllegalStateException("it has LEFT");
        }
        leaver.left = true;
        for (int s = 0; s < MAX_STEPS; s++) {
            if (leaver.states[s] == OPEN) {
                timetable.release(leaver.booked[s]);
                leaver.booked[s] = NONE;
            }
        }
        bookAll();
        return leaver.countIn(RUNNING) + leaver.countIn(DONE);
    }

    public int day() throws IllegalStateException {
        if (today >= LAST_DAY) {
            throw new IllegalStateException("it is the last DAY");
        }
        today++;
        storeroom.receive(today);
        int done = 0;
        for (int j = 0; j < joinerCount; j++) {
            done += joinerAt(j).finishSteps(today);
        }
        for (int j = 0; j < joinerCount; j++) {
            beginSteps(joinerAt(j));
        }
        for (int j = 0; j < joinerCount; j++) {
            loseSessions(joinerAt(j));
        }
        bookAll();
        for (int j = 0; j < joinerCount; j++) {
            takeBackStep(joinerAt(j));
        }
        return done;
    }

    public int ofStep(int joiner, int step, int what)
            throws IndexOutOfBoundsException, IllegalArgumentException {
        Joiner asked = joinerAt(joiner);
        if (step < 0 || step >= MAX_STEPS || !has(asked.steps, step)) {
            throw new IndexOutOfBoundsException("no such STEP of that JOINER");
        }
        if (!isWithin(what, 0, LAST_OF_STEP)) {
            throw new IllegalArgumentException("nothing of a STEP is told so");
        }
        forecast.foresee(asked, today, NONE, 0);
        return foreseenOfStep(asked, step, what);
    }

    public int ofJoiner(int joiner, int what)
            throws IndexOutOfBoundsException, IllegalArgumentException {
        Joiner asked = joinerAt(joiner);
        if (!isWithin(what, 0, LAST_OF_JOINER)) {
            throw new IllegalArgumentException("nothing of a JOINER is told so");
        }
        forecast.foresee(asked, today, NONE, 0);
        return foreseenOfJoiner(asked, what);
    }

    public int many(int what) throws IllegalArgumentException {
        if (!isWithin(what, 0, LAST_OF_MANY)) {
            throw new IllegalArgumentException("nothing is counted so");
        }
        switch (what) {
            case 0:
                return plan.stepCount;
            case 1:
                return plan.rightCount;
            case 2:
                return storeroom.orderCount;
            case 3:
                return timetable.sessionCount;
            case 4:
                return joinerCount;
            case 5:
                return countLeft();
            case 6:
                return countStepsIn(DONE);
            case 7:
                return countStepsIn(RUNNING);
            case 8:
                return countRights();
            case 9:
                return timetable.seatsTaken();
            default:
                return today;
        }
    }

    public double meanDays() {
        int sum = 0;
        int known = 0;
        for (int j = 0; j < joinerCount; j++) {
            Joiner joiner = joinerAt(j);
            forecast.foresee(joiner, today, NONE, 0);
            int end = forecast.greatestEnd(joiner.steps);
            if (end != NONE) {
                sum += end - joiner.start;
                known++;
            }
        }
        return known == 0 ? 0.0 : (double) sum / (double) known;
    }

    // ---- what would be (nothing is changed)

    public int rightOn(int joiner, int right) throws IndexOutOfBoundsException {
        Joiner asked = joinerAt(joiner);
        if (right < 0 || right >= plan.rightCount) {
            throw new IndexOutOfBoundsException("no such RIGHT");
        }
        forecast.foresee(asked, today, NONE, 0);
        return forecast.dayBehind(plan.rights[right]);
    }

    public int shiftBy(int order, int days)
            throws IndexOutOfBoundsException, IllegalArgumentException, IllegalStateException {
        checkDelay(order, days);
        int later = 0;
        for (int j = 0; j < joinerCount; j++) {
            Joiner joiner = joinerAt(j);
            forecast.foresee(joiner, today, NONE, 0);
            int now = forecast.greatestEnd(joiner.steps);
            forecast.foresee(joiner, today, order, days);
            int then = forecast.greatestEnd(joiner.steps);
            if (now != NONE && then != NONE) {
                later += then - now;
            }
        }
        return later;
    }

    public int next(int joiner) throws IndexOutOfBoundsException {
        return nextStep(joinerAt(joiner));
    }

    public int waitFor(int joiner, int step) throws IndexOutOfBoundsException {
        Joiner asked = joinerAt(joiner);
        if (step < 0 || step >= MAX_STEPS || !has(asked.steps, step)) {
            throw new IndexOutOfBoundsException("no such STEP of that JOINER");
        }
        return countWaitingOn(asked, step);
    }

    public long digest() {
        long d = DIGEST_START;
        for (int what = 0; what <= LAST_OF_MANY; what++) {
            d = d * 31 + many(what);
        }
        for (int item = 0; item < ITEMS; item++) {
            for (int what = 0; what <= LAST_OF_ITEM; what++) {
                d = d * 31 + ofItem(item, what);
            }
        }
        for (int session = 0; session < timetable.sessionCount; session++) {
            for (int what = 0; what <= LAST_OF_SESSION; what++) {
                d = d * 31 + ofSession(session, what);
            }
        }
        for (int j = 0; j < joinerCount; j++) {
            d = digestWith(d, joinerAt(j));
        }
        return d;
    }

    // ---- what the calls look at first

    private static boolean has(int set, int member) {
        return (set >> member & 1) == 1;
    }

    private static boolean isWithin(int value, int least, int most) {
        return value >= least && value <= most;
    }

    private static boolean isOfKind(int kind, int of) {
        if (kind == FORM) {
            return isWithin(of, 0, ALL_FIELDS);
        }
        return kind != KIT || isWithin(of, 0, ITEMS - 1);
    }

    private boolean isAhead(int day) {
        return day > today && day <= LAST_DAY;
    }

    private void checkDelay(int order, int days)
            throws IndexOutOfBoundsException, IllegalArgumentException, IllegalStateException {
        if (order < 0 || order >= storeroom.orderCount) {
            throw new IndexOutOfBoundsException("no such ORDER");
        }
        if (!isWithin(days, 1, MAX_DELAY)) {
            throw new IllegalArgumentException("not so many DAYS later");
        }
        if (storeroom.orderDays[order] <= today) {
            throw new IllegalStateException("it came");
        }
    }

    private Joiner joinerAt(int number) throws IndexOutOfBoundsException {
        if (number < 0 || number >= joinerCount || number >= MAX_JOINERS) {
            throw new IndexOutOfBoundsException("no such JOINER");
        }
        Joiner joiner = joiners[number];
        if (joiner == null) {
            throw new IndexOutOfBoundsException("no such JOINER");
        }
        return joiner;
    }

    // ---- how a DAY goes

    private void beginSteps(Joiner joiner) {
        for (int s = 0; s < MAX_STEPS; s++) {
            if (isReady(joiner, s) && canBegin(joiner, s)) {
                if (plan.kinds[s] == KIT) {
                    storeroom.takeOne(plan.ofs[s]);
                }
                joiner.lengths[s] = plan.lengthFor(joiner, s);
                joiner.begins[s] = today;
                joiner.states[s] = RUNNING;
            }
        }
    }

    private boolean isReady(Joiner joiner, int step) {
        return !joiner.left && joiner.start <= today && joiner.isIn(step, OPEN)
                && plan.needsAreDone(joiner, step);
    }

    private boolean canBegin(Joiner joiner, int step) {
        if (step < 0 || step >= MAX_STEPS) {
            return false;
        }
        if (plan.kinds[step] == KIT) {
            return storeroom.hasPiece(plan.ofs[step]);
        }
        return plan.kinds[step] != COURSE || timetable.dayOf(joiner.booked[step]) == today;
    }

    private void loseSessions(Joiner joiner) {
        for (int s = 0; s < MAX_STEPS; s++) {
            if (joiner.states[s] == OPEN && timetable.dayOf(joiner.booked[s]) == today) {
                timetable.release(joiner.booked[s]);
                joiner.booked[s] = NONE;
                joiner.losses[s]++;
            }
        }
    }

    private void bookAll() {
        forecast.lookFrom(today, NONE, 0);
        for (int j = 0; j < joinerCount; j++) {
            Joiner joiner = joinerAt(j);
            if (!joiner.left) {
                bookFor(joiner);
            }
        }
    }

    private void bookFor(Joiner joiner) {
        for (int s = 0; s < MAX_STEPS; s++) {
            forecast.foreseeStep(joiner, s);
            if (plan.kinds[s] == COURSE && joiner.isIn(s, OPEN) && joiner.booked[s] == NONE) {
                joiner.booked[s] = timetable.book(s, forecast.begins[s]);
                // what needs this COURSE is expected behind the SESSION that it has got just now
                forecast.foreseeStep(joiner, s);
            }
        }
    }

    private void takeBackStep(Joiner joiner) {
        if (!joiner.left) {
            return;
        }
        int last = joiner.lastBegun();
        if (last < 0 || last >= MAX_STEPS) {
            return;
        }
        joiner.states[last] = TAKEN_BACK;
        if (plan.kinds[last] == KIT) {
            storeroom.putIn(plan.ofs[last], 1);
        }
    }

    // ---- what is asked

    /** Answers of the JOINER that was foreseen last. */
    private int foreseenOfStep(Joiner joiner, int step, int what) {
        if (step < 0 || step >= MAX_STEPS) {
            return NONE;
        }
        switch (what) {
            case 0:
                return joiner.states[step];
            case 1:
                return forecast.begins[step];
            case 2:
                return forecast.ends[step];
            case 3:
                return joiner.booked[step];
            case 4:
                return plan.lengthFor(joiner, step);
            default:
                return joiner.losses[step];
        }
    }

    /** Answers of the JOINER that was foreseen last. */
    private int foreseenOfJoiner(Joiner joiner, int what) {
        switch (what) {
            case 0:
                return joiner.steps;
            case 1:
                return joiner.start;
            case 2:
                return joiner.countIn(DONE);
            case 3:
                return joiner.countIn(RUNNING);
            case 4:
                return plan.rightsOf(joiner);
            case 5:
                return joiner.left ? 1 : 0;
            default:
                return forecast.greatestEnd(joiner.steps);
        }
    }

    private int nextStep(Joiner joiner) {
        if (joiner.left) {
            return NONE;
        }
        for (int s = 0; s < MAX_STEPS; s++) {
            boolean isToDo = joiner.isIn(s, OPEN) || joiner.isIn(s, RUNNING);
            if (isToDo && plan.needsAreDone(joiner, s)) {
                return s;
            }
        }
        return NONE;
    }

    private int countWaitingOn(Joiner joiner, int step) {
        int itself = 1 << step;
        int reached = itself;
        // needs have smaller numbers, so one way upwards reaches all that need it over others
        for (int s = 0; s < MAX_STEPS; s++) {
            if (has(joiner.steps, s) && (plan.needs[s] & reached) != 0) {
                reached |= 1 << s;
            }
        }
        return Integer.bitCount(reached & ~itself & ~joiner.stepsIn(DONE));
    }

    private int countWaitingFor(int item) {
        int count = 0;
        for (int j = 0; j < joinerCount; j++) {
            Joiner joiner = joinerAt(j);
            for (int s = 0; s < MAX_STEPS; s++) {
                if (plan.kinds[s] == KIT && plan.ofs[s] == item && isReady(joiner, s)) {
                    count++;
                }
            }
        }
        return count;
    }

    private int countLeft() {
        int count = 0;
        for (int j = 0; j < joinerCount; j++) {
            if (joinerAt(j).left) {
                count++;
            }
        }
        return count;
    }

    private int countStepsIn(int state) {
        int count = 0;
        for (int j = 0; j < joinerCount; j++) {
            count += joinerAt(j).countIn(state);
        }
        return count;
    }

    private int countRights() {
        int count = 0;
        for (int j = 0; j < joinerCount; j++) {
            count += Integer.bitCount(plan.rightsOf(joinerAt(j)));
        }
        return count;
    }

    private long digestWith(long before, Joiner joiner) {
        long d = before;
        forecast.foresee(joiner, today, NONE, 0);
        for (int what = 0; what <= LAST_OF_JOINER; what++) {
            d = d * 31 + foreseenOfJoiner(joiner, what);
        }
        d = d * 31 + nextStep(joiner);
        for (int r = 0; r < plan.rightCount; r++) {
            d = d * 31 + forecast.dayBehind(plan.rights[r]);
        }
        for (int s = 0; s < MAX_STEPS; s++) {
            if (has(joiner.steps, s)) {
                for (int what = 0; what <= LAST_OF_STEP; what++) {
                    d = d * 31 + foreseenOfStep(joiner, s, what);
                }
                d = d * 31 + countWaitingOn(joiner, s);
            }
        }
        return d;
    }

    /** The STEPS, ROLES and RIGHTS that were told. */
    private static final class Plan {
        final int[] kinds = new int[MAX_STEPS];
        final int[] baseLengths = new int[MAX_STEPS];
        final int[] needs = new int[MAX_STEPS];
        final int[] ofs = new int[MAX_STEPS];
        final int[] roles = new int[ROLES];
        final int[] rights = new int[MAX_RIGHTS];
        int stepCount;
        int rightCount;

        boolean knows(int steps) {
            return steps >= 0 && steps >> stepCount == 0;
        }

        int addStep(int kind, int length, int needed, int of) {
            if (stepCount >= MAX_STEPS) {
                return NONE;
            }
            kinds[stepCount] = kind;
            baseLengths[stepCount] = length;
            needs[stepCount] = needed;
            ofs[stepCount] = of;
            stepCount++;
            return stepCount - 1;
        }

        int addRight(int steps) {
            if (rightCount >= MAX_RIGHTS) {
                return NONE;
            }
            rights[rightCount] = steps;
            rightCount++;
            return rightCount - 1;
        }

        boolean needsAreDone(Joiner joiner, int step) {
            if (step < 0 || step >= MAX_STEPS) {
                return false;
            }
            return (needs[step] & joiner.steps & ~joiner.stepsIn(DONE)) == 0;
        }

        int lengthFor(Joiner joiner, int step) {
            if (step < 0 || step >= MAX_STEPS) {
                return NONE;
            }
            if (joiner.states[step] != OPEN) {
                return joiner.lengths[step];
            }
            if (kinds[step] != FORM) {
                return baseLengths[step];
            }
            int fresh = ofs[step];
            int done = joiner.stepsIn(DONE);
            for (int s = 0; s < MAX_STEPS; s++) {
                if (kinds[s] == FORM && has(done, s)) {
                    fresh &= ~ofs[s];
                }
            }
            return baseLengths[step] + (Integer.bitCount(fresh) + 1) / 2;
        }

        int rightsOf(Joiner joiner) {
            int done = joiner.stepsIn(DONE);
            int held = 0;
            for (int r = 0; r < rightCount; r++) {
                if ((rights[r] & ~done) == 0) {
                    held |= 1 << r;
                }
            }
            return held;
        }
    }

    /** The STOCK of the ITEMS, and the ORDERS. */
    private static final class Storeroom {
        final int[] pieces = new int[ITEMS];
        final int[] orderItems = new int[MAX_ORDERS];
        final int[] orderPieces = new int[MAX_ORDERS];
        final int[] orderDays = new int[MAX_ORDERS];
        int orderCount;

        boolean hasPiece(int item) {
            return item >= 0 && item < ITEMS && pieces[item] > 0;
        }

        void putIn(int item, int many) {
            if (item >= 0 && item < ITEMS) {
                pieces[item] += many;
            }
        }

        void takeOne(int item) {
            if (hasPiece(item)) {
                pieces[item]--;
            }
        }

        int addOrder(int item, int many, int day) {
            if (orderCount >= MAX_ORDERS) {
                return NONE;
            }
            orderItems[orderCount] = item;
            orderPieces[orderCount] = many;
            orderDays[orderCount] = day;
            orderCount++;
            return orderCount - 1;
        }

        int delay(int order, int days) {
            if (order < 0 || order >= orderCount) {
                return NONE;
            }
            orderDays[order] += days;
            return orderDays[order];
        }

        void receive(int today) {
            for (int o = 0; o < orderCount; o++) {
                if (orderDays[o] == today) {
                    putIn(orderItems[o], orderPieces[o]);
                }
            }
        }

        int piecesToCome(int item, int today) {
            int sum = 0;
            for (int o = 0; o < orderCount; o++) {
                if (orderItems[o] == item && orderDays[o] > today) {
                    sum += orderPieces[o];
                }
            }
            return sum;
        }

        int earliestToCome(int item, int today, int lateOrder, int daysLate) {
            int earliest = NONE;
            for (int o = 0; o < orderCount; o++) {
                if (orderItems[o] == item && orderDays[o] > today) {
                    int comes = o == lateOrder ? orderDays[o] + daysLate : orderDays[o];
                    earliest = earliest == NONE ? comes : Math.min(earliest, comes);
                }
            }
            return earliest;
        }
    }

    /** The SESSIONS, and how many of their SEATS are BOOKED. */
    private static final class Timetable {
        final int[] courses = new int[MAX_SESSIONS];
        final int[] days = new int[MAX_SESSIONS];
        final int[] seats = new int[MAX_SESSIONS];
        final int[] taken = new int[MAX_SESSIONS];
        int sessionCount;

        int addSession(int course, int day, int seatCount) {
            if (sessionCount >= MAX_SESSIONS) {
                return NONE;
            }
            courses[sessionCount] = course;
            days[sessionCount] = day;
            seats[sessionCount] = seatCount;
            sessionCount++;
            return sessionCount - 1;
        }

        int dayOf(int session) {
            return session < 0 || session >= sessionCount ? NONE : days[session];
        }

        int book(int course, int expected) {
            if (expected == NONE) {
                return NONE;
            }
            int best = NONE;
            for (int s = 0; s < sessionCount; s++) {
                boolean fits = courses[s] == course && taken[s] < seats[s] && days[s] >= expected;
                if (fits && (best == NONE || days[s] < dayOf(best))) {
                    best = s;
                }
            }
            if (best >= 0 && best < sessionCount) {
                taken[best]++;
            }
            return best;
        }

        void release(int session) {
            if (session >= 0 && session < sessionCount) {
                taken[session]--;
            }
        }

        int seatsTaken() {
            int sum = 0;
            for (int s = 0; s < sessionCount; s++) {
                sum += taken[s];
            }
            return sum;
        }
    }

    /** One who joined, and how far each STEP is; a row's place is the number of the STEP. */
    private static final class Joiner {
        final int[] states = new int[MAX_STEPS];
        final int[] begins = new int[MAX_STEPS];
        final int[] lengths = new int[MAX_STEPS];
        final int[] booked = new int[MAX_STEPS];
        final int[] losses = new int[MAX_STEPS];
        int steps;
        int start;
        boolean left;

        Joiner() {
            for (int s = 0; s < MAX_STEPS; s++) {
                booked[s] = NONE;
            }
        }

        boolean isIn(int step, int state) {
            return step >= 0 && step < MAX_STEPS && has(steps, step) && states[step] == state;
        }

        int stepsIn(int state) {
            int set = 0;
            for (int s = 0; s < MAX_STEPS; s++) {
                if (states[s] == state) {
                    set |= 1 << s;
                }
            }
            return set & steps;
        }

        int countIn(int state) {
            return Integer.bitCount(stepsIn(state));
        }

        int finishSteps(int today) {
            if (left) {
                return 0;
            }
            int done = 0;
            for (int s = 0; s < MAX_STEPS; s++) {
                if (states[s] == RUNNING && begins[s] + lengths[s] <= today) {
                    states[s] = DONE;
                    done++;
                }
            }
            return done;
        }

        int lastBegun() {
            int last = NONE;
            int lastDay = NONE;
            for (int s = 0; s < MAX_STEPS; s++) {
                boolean isBegun = states[s] == RUNNING || states[s] == DONE;
                if (isBegun && begins[s] >= lastDay) {
                    last = s;
                    lastDay = begins[s];
                }
            }
            return last;
        }
    }

    /** What is EXPECTED of one JOINER at a time; the rows are used again for the next. */
    private static final class Forecast {
        private final Plan plan;
        private final Storeroom storeroom;
        private final Timetable timetable;
        private final int[] supplyDays = new int[ITEMS];
        final int[] begins = new int[MAX_STEPS];
        final int[] ends = new int[MAX_STEPS];
        private int tomorrow;

        Forecast(Plan plan, Storeroom storeroom, Timetable timetable) {
            this.plan = plan;
            this.storeroom = storeroom;
            this.timetable = timetable;
        }

        void foresee(Joiner joiner, int today, int lateOrder, int daysLate) {
            lookFrom(today, lateOrder, daysLate);
            for (int s = 0; s < MAX_STEPS; s++) {
                foreseeStep(joiner, s);
            }
        }

        void lookFrom(int today, int lateOrder, int daysLate) {
            tomorrow = today + 1;
            for (int item = 0; item < ITEMS; item++) {
                supplyDays[item] = storeroom.hasPiece(item)
                        ? today : storeroom.earliestToCome(item, today, lateOrder, daysLate);
            }
        }

        /** What it NEEDS must have been foreseen before: so from the smallest number upwards. */
        void foreseeStep(Joiner joiner, int step) {
            if (step < 0 || step >= MAX_STEPS) {
                return;
            }
            int begin = beginOf(joiner, step);
            begins[step] = begin;
            ends[step] = begin == NONE ? NONE : begin + plan.lengthFor(joiner, step) - 1;
        }

        private int beginOf(Joiner joiner, int step) {
            if (step < 0 || step >= MAX_STEPS || joiner.left || !has(joiner.steps, step)) {
                return NONE;
            }
            if (joiner.states[step] != OPEN) {
                return joiner.begins[step];
            }
            int begin = Math.max(tomorrow, joiner.start);
            int needed = plan.needs[step] & joiner.steps;
            for (int s = 0; s < step; s++) {
                if (has(needed, s)) {
                    if (ends[s] == NONE) {
                        return NONE;
                    }
                    begin = Math.max(begin, ends[s] + 1);
                }
            }
            if (plan.kinds[step] == COURSE) {
                return Math.max(begin, timetable.dayOf(joiner.booked[step]));
            }
            return plan.kinds[step] == KIT ? withSupply(begin, plan.ofs[step]) : begin;
        }

        private int withSupply(int begin, int item) {
            if (item < 0 || item >= ITEMS || supplyDays[item] == NONE) {
                return NONE;
            }
            return Math.max(begin, supplyDays[item]);
        }

        int dayBehind(int steps) {
            int end = greatestEnd(steps);
            return end == NONE ? NONE : end + 1;
        }

        int greatestEnd(int steps) {
            int greatest = NONE;
            for (int s = 0; s < MAX_STEPS; s++) {
                if (has(steps, s)) {
                    if (ends[s] == NONE) {
                        return NONE;
                    }
                    greatest = Math.max(greatest, ends[s]);
                }
            }
            return greatest;
        }
    }
}
