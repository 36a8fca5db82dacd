/** Promises 1 to 10: what the calls return and do, at the edges; RefusalsTest has what they refuse. */
public final class AnswersOneToTenTest extends Edge {
    private static final int MIN = Integer.MIN_VALUE;
    private static final int MAX = Integer.MAX_VALUE;

    public static void main(String[] args) {
        officeWithoutSteps();
        stepNumbers();
        stepOfIsNotLookedAt();
        roleBefore();
        roleFromNowOn();
        rightNumbers();
        stockThen();
        orderNumbers();
        lateDay();
        lateAboveTheLastDay();
        lateLeavesOthersAsTheyAre();
        kitBooksNothing();
        lateLeavesWhatIsBooked();
        sessionNumbers();
        sessionThenAllIsBooked();
        ofSessionWhat();
        ofSessionForStepsThatBegan();
        ofItemStock();
        ofItemStillToCome();
        ofItemEarliest();
        ofItemWaiting();
        ofItemWaitingWithStock();
        Check.end();
    }

    /** 1: "Creates an office without STEPS." */
    private static void officeWithoutSteps() {
        OnboardingWorks x = new OnboardingWorks();
        for (int what = 0; what <= 10; what++) {
            due("promise 1, nothing is there: many(" + what + ")", x.many(what), 0);
        }
        for (int item = 0; item <= 3; item++) {
            due("promise 1, no STOCK", x.ofItem(item, STOCK), 0);
            due("promise 1, nothing to COME", x.ofItem(item, TO_COME), 0);
            due("promise 1, no DAY of that", x.ofItem(item, EARLIEST), NONE);
            due("promise 1, nobody waits", x.ofItem(item, WAITING), 0);
            due("promise 1, ROLES without STEPS", x.role(item, 0), 0);
        }
        Check.dueDouble("promise 1, no mean", x.meanDays(), 0.0);
        due("promise 1, nothing is DONE by a DAY", x.day(), 0);
    }

    /** 2: "Returns its number." */
    private static void stepNumbers() {
        OnboardingWorks x = new OnboardingWorks();
        due("promise 2, the smallest of all", x.step(0, 1, 0, 0), 0);
        due("promise 2, the greatest FORM", x.step(0, 9, 1, 255), 1);
        due("promise 2, ITEM 0", x.step(1, 1, 2, 0), 2);
        due("promise 2, ITEM 3", x.step(1, 9, 7, 3), 3);
        due("promise 2, the greatest of all", x.step(3, 9, 15, 255), 4);
        due("promise 2, the STEPS then", x.many(0), 5);
    }

    /** 2: "not looked at with others" */
    private static void stepOfIsNotLookedAt() {
        OnboardingWorks x = new OnboardingWorks();
        int number = 0;
        for (int of : new int[] {-1, 4, 256, MIN, MAX}) {
            due("promise 2, a COURSE with of " + of, x.step(COURSE, 1, 0, of), number++);
            due("promise 2, a MEETING with of " + of, x.step(MEETING, 1, 0, of), number++);
        }
        x.role(0, 1023);
        x.join(0, 1);
        dueOfSteps("promise 2, nor as it is told how long", x, 0, LONG, 1, 1, 1, 1, 1, 1, 1, 1, 1, 1);
        dueOfSteps("promise 2, nor as it is EXPECTED", x, 0, BEGIN, 1, 1, 1, 1, 1, 1, 1, 1, 1, 1);
    }

    /** 3: "Returns the one before." */
    private static void roleBefore() {
        OnboardingWorks x = new OnboardingWorks();
        for (int s = 0; s < 12; s++) {
            meeting(x, 1);
        }
        for (int role = 0; role <= 3; role++) {
            due("promise 3, none before", x.role(role, 4095), 0);
        }
        for (int role = 0; role <= 3; role++) {
            due("promise 3, all twelve before", x.role(role, 1 << role), 4095);
            due("promise 3, one before", x.role(role, 0), 1 << role);
            due("promise 3, the empty set before", x.role(role, 2048), 0);
            due("promise 3, the last STEP before", x.role(role, 2048), 2048);
        }
    }

    /** 3: "its set of STEPS from now on" */
    private static void roleFromNowOn() {
        OnboardingWorks x = new OnboardingWorks();
        meeting(x, 1);
        meeting(x, 1);
        x.role(3, 1);
        x.join(3, 1);
        x.role(3, 2);
        x.join(3, 1);
        x.role(3, 0);
        due("promise 3, who joined before", x.ofJoiner(0, STEPS), 1);
        due("promise 3, who joined then", x.ofJoiner(1, STEPS), 2);
        Check.refused(x, Check.STATE, "promise 3, nobody with the empty set", () -> x.join(3, 1));
    }

    /** 4: "Returns its number." */
    private static void rightNumbers() {
        OnboardingWorks x = new OnboardingWorks();
        for (int s = 0; s < 12; s++) {
            meeting(x, s < 9 ? s + 1 : 9);
        }
        due("promise 4, the smallest set", x.right(1), 0);
        due("promise 4, all twelve STEPS", x.right(4095), 1);
        due("promise 4, the last STEP", x.right(2048), 2);
        due("promise 4, a set that there is already", x.right(1), 3);
        x.role(0, 4095);
        x.join(0, 1);
        due("promise 4, behind STEP 0", x.rightOn(0, 0), 2);
        due("promise 4, behind all", x.rightOn(0, 1), 10);
        due("promise 4, the same set, the same DAY", x.rightOn(0, 3), 2);
    }

    /** 5: "Returns the STOCK then." */
    private static void stockThen() {
        OnboardingWorks x = new OnboardingWorks();
        kit(x, 1, 3);
        due("promise 5, 1 at least", x.stock(3, 1), 1);
        due("promise 5, 20 at most, each time", x.stock(3, 20), 21);
        due("promise 5, and again", x.stock(3, 20), 41);
        due("promise 5, of that ITEM alone", x.stock(0, 20), 20);
        joins(x, 1, 0);
        x.order(3, 2, 1);
        x.day();
        due("promise 5, with what came, without what was taken", x.stock(3, 1), 43);
    }

    /** 6: "Returns the number of the ORDER." */
    private static void orderNumbers() {
        OnboardingWorks x = new OnboardingWorks();
        toDay(x, 5);
        due("promise 6, 1 for tomorrow", x.order(0, 1, 6), 0);
        due("promise 6, 20 for DAY 199", x.order(3, 20, 199), 1);
        due("promise 6, the same again", x.order(3, 20, 199), 2);
        due("promise 6, nothing is there at once", x.ofItem(0, STOCK), 0);
        due("promise 6, one piece", x.ofItem(0, TO_COME), 1);
        due("promise 6, forty pieces", x.ofItem(3, TO_COME), 40);
        x.day();
        due("promise 6, the first ORDER came", x.ofItem(0, STOCK), 1);
        due("promise 6, and counts as an ORDER still", x.many(2), 3);
    }

    /** 7: "how many DAYS later it COMES. Returns the DAY on which it COMES then" */
    private static void lateDay() {
        OnboardingWorks x = new OnboardingWorks();
        x.order(0, 1, 2);
        x.order(0, 2, 3);
        x.day();
        due("promise 7, 1 DAY, as it COMES tomorrow", x.late(0, 1), 3);
        due("promise 7, 30 DAYS", x.late(1, 30), 33);
        x.day();
        due("promise 7, not on the DAY of before", x.ofItem(0, STOCK), 0);
        due("promise 7, again on the DAY of before", x.late(0, 2), 5);
        toDay(x, 4);
        due("promise 7, not yet", x.ofItem(0, STOCK), 0);
        x.day();
        due("promise 7, on the DAY that it returned", x.ofItem(0, STOCK), 1);
        Check.refused(x, Check.STATE, "promise 7, it came today", () -> x.late(0, 1));
        toDay(x, 33);
        due("promise 7, the other on its DAY", x.ofItem(0, STOCK), 3);
    }

    /** 7: "(it can be above 199)" */
    private static void lateAboveTheLastDay() {
        OnboardingWorks x = new OnboardingWorks();
        x.order(0, 1, 199);
        x.order(0, 1, 199);
        x.order(0, 1, 198);
        due("promise 7, from 198 to 199", x.late(2, 1), 199);
        due("promise 7, from 199 to 200", x.late(0, 1), 200);
        due("promise 7, from 199 to 229", x.late(1, 30), 229);
        toDay(x, 199);
        due("promise 7, that of DAY 199 came alone", x.ofItem(0, STOCK), 1);
        due("promise 7, the others are still to COME", x.ofItem(0, TO_COME), 2);
        due("promise 7, the earliest of them", x.ofItem(0, EARLIEST), 200);
        due("promise 7, late on DAY 199, too", x.late(0, 30), 230);
        due("promise 7, the earliest then", x.ofItem(0, EARLIEST), 229);
        due("promise 7, what it would be then", x.shiftBy(0, 30), 0);
    }

    /** 7: "Tells that an ORDER is late": the others are not. */
    private static void lateLeavesOthersAsTheyAre() {
        OnboardingWorks x = new OnboardingWorks();
        x.order(0, 1, 5);
        x.order(0, 2, 5);
        x.order(1, 4, 5);
        x.late(1, 1);
        toDay(x, 5);
        due("promise 7, another ORDER of that ITEM", x.ofItem(0, STOCK), 1);
        due("promise 7, an ORDER of another ITEM", x.ofItem(1, STOCK), 4);
        x.day();
        due("promise 7, the late one", x.ofItem(0, STOCK), 3);
    }

    /** 5 to 7 say nothing of BOOKING: what is BOOKED stays as it is. */
    private static void kitBooksNothing() {
        OnboardingWorks x = new OnboardingWorks();
        kit(x, 1, 0);
        course(x, 1, 0);
        x.session(1, 3, 1);
        x.session(1, 9, 1);
        joins(x, 1, 0, 1);
        x.order(0, 1, 2);
        due("promise 6, an ORDER alone BOOKS nothing", x.ofStep(0, 1, BOOKED), NONE);
        x.late(0, 1);
        due("promise 7, nor does one that is late", x.ofStep(0, 1, BOOKED), NONE);
        x.stock(0, 1);
        due("promise 5, nor does the STOCK", x.ofStep(0, 1, BOOKED), NONE);
        x.day();
        due("promise 13, the next DAY does", x.ofStep(0, 1, BOOKED), 0);
    }

    /** 7: what is BOOKED stays, though it is too early now. */
    private static void lateLeavesWhatIsBooked() {
        OnboardingWorks x = new OnboardingWorks();
        kit(x, 1, 0);
        course(x, 1, 0);
        x.order(0, 1, 2);
        x.session(1, 3, 1);
        x.session(1, 9, 1);
        joins(x, 1, 0, 1);
        x.late(0, 5);
        due("promise 7, what is BOOKED stays, though too early now", x.ofStep(0, 1, BOOKED), 0);
        due("promise 7, the COURSE is EXPECTED behind the KIT", x.ofStep(0, 1, BEGIN), 8);
        x.session(1, 10, 1);
        due("promise 8, it stays BOOKED as all is BOOKED", x.ofStep(0, 1, BOOKED), 0);
    }

    /** 8: "Returns its number." */
    private static void sessionNumbers() {
        OnboardingWorks x = new OnboardingWorks();
        for (int s = 0; s < 12; s++) {
            course(x, 1);
        }
        toDay(x, 7);
        due("promise 8, tomorrow, 1 SEAT, COURSE 0", x.session(0, 8, 1), 0);
        due("promise 8, DAY 199, 9 SEATS, COURSE 11", x.session(11, 199, 9), 1);
        due("promise 8, the same again", x.session(11, 199, 9), 2);
        due("promise 8, the SESSIONS then", x.many(3), 3);
        due("promise 8, nobody is there for it", x.many(9), 0);
    }

    /** 8: "then all is BOOKED": for other COURSES, too. */
    private static void sessionThenAllIsBooked() {
        OnboardingWorks x = new OnboardingWorks();
        kit(x, 1, 0);
        course(x, 1, 0);
        course(x, 1);
        x.session(1, 8, 9);
        joins(x, 1, 0, 1, 2);
        joins(x, 1, 0, 1);
        x.order(0, 2, 5);
        due("promise 8, not BOOKED yet", x.many(9), 0);
        x.session(2, 1, 9);
        due("promise 8, the new SESSION", x.ofStep(0, 2, BOOKED), 1);
        due("promise 8, an older one of another COURSE", x.ofStep(0, 1, BOOKED), 0);
        due("promise 8, for each JOINER", x.ofStep(1, 1, BOOKED), 0);
    }

    /** 9: "0 its COURSE, 1 its DAY, 2 its SEATS, 3 how many of these are BOOKED" */
    private static void ofSessionWhat() {
        OnboardingWorks x = new OnboardingWorks();
        for (int s = 0; s < 12; s++) {
            course(x, 1);
        }
        x.session(11, 199, 9);
        x.session(0, 1, 1);
        int[][] want = {{11, 199, 9, 0}, {0, 1, 1, 0}};
        for (int s = 0; s < 2; s++) {
            for (int what = 0; what <= 3; what++) {
                due("promise 9, ofSession(" + s + ", " + what + ")", x.ofSession(s, what), want[s][what]);
            }
        }
        for (int j = 1; j <= 8; j++) {
            joins(x, j, 11);
            due("promise 9, BOOKED by " + j, x.ofSession(0, TAKEN), j);
        }
        due("promise 9, none of the other", x.ofSession(1, TAKEN), 0);
        x.leave(7);
        due("promise 9, BOOKED by 7 again", x.ofSession(0, TAKEN), 7);
    }

    /** 9: "(for STEPS that began, too)" */
    private static void ofSessionForStepsThatBegan() {
        OnboardingWorks x = new OnboardingWorks();
        course(x, 1);
        x.session(0, 2, 2);
        joins(x, 1, 0);
        joins(x, 1, 0);
        for (int day = 0; day <= 4; day++) {
            toDay(x, day);
            due("promise 9, OPEN, RUNNING or DONE, on DAY " + day, x.ofSession(0, TAKEN), 2);
        }
        x.leave(0);
        x.leave(1);
        x.day();
        due("promise 9, TAKEN BACK, too: these began", x.ofSession(0, TAKEN), 2);
        due("promise 9, the DAY of a SESSION that was", x.ofSession(0, 1), 2);
    }

    /** 10: "0 its STOCK" */
    private static void ofItemStock() {
        OnboardingWorks x = new OnboardingWorks();
        kit(x, 1, 3);
        x.stock(3, 1);
        x.order(3, 20, 2);
        joins(x, 1, 0);
        int[] stock = {1, 0, 20};
        for (int day = 0; day <= 2; day++) {
            toDay(x, day);
            due("promise 10, STOCK on DAY " + day, x.ofItem(3, STOCK), stock[day]);
        }
        due("promise 10, STOCK of another ITEM", x.ofItem(0, STOCK), 0);
    }

    /** 10: "1 how many pieces of it are still to COME" */
    private static void ofItemStillToCome() {
        OnboardingWorks x = new OnboardingWorks();
        x.order(0, 20, 1);
        x.order(0, 20, 199);
        x.order(0, 1, 2);
        x.order(3, 5, 1);
        int[] pieces = {41, 21, 20, 20};
        for (int day = 0; day <= 3; day++) {
            toDay(x, day);
            due("promise 10, still to COME on DAY " + day, x.ofItem(0, TO_COME), pieces[day]);
        }
        due("promise 10, of another ITEM", x.ofItem(3, TO_COME), 0);
        x.late(1, 30);
        toDay(x, 199);
        due("promise 10, still to COME above 199", x.ofItem(0, TO_COME), 20);
    }

    /** 10: "2 the earliest DAY of these (NONE)" */
    private static void ofItemEarliest() {
        OnboardingWorks x = new OnboardingWorks();
        x.order(2, 1, 199);
        x.order(2, 1, 2);
        x.order(2, 1, 1);
        x.order(2, 1, 2);
        x.order(1, 1, 1);
        int[] earliest = {1, 2, 199, 199};
        for (int day = 0; day <= 3; day++) {
            toDay(x, day);
            due("promise 10, the earliest on DAY " + day, x.ofItem(2, EARLIEST), earliest[day]);
        }
        due("promise 10, NONE as all came", x.ofItem(1, EARLIEST), NONE);
        due("promise 10, NONE without an ORDER", x.ofItem(0, EARLIEST), NONE);
        toDay(x, 198);
        due("promise 10, that of tomorrow", x.ofItem(2, EARLIEST), 199);
        x.day();
        due("promise 10, NONE as it came today", x.ofItem(2, EARLIEST), NONE);
    }

    /** 10: "3 how many STEPS wait for one: READY, of JOINERS that have not LEFT, with a KIT of that" */
    private static void ofItemWaiting() {
        OnboardingWorks x = new OnboardingWorks();
        kit(x, 1, 0);
        kit(x, 1, 0);
        kit(x, 1, 0, 0);
        kit(x, 1, 3);
        form(x, 1, 0);
        joins(x, 1, 0, 1, 2, 3, 4);
        joins(x, 1, 1);
        joins(x, 2, 0, 3);
        due("promise 10, nobody ahead of START", x.ofItem(0, WAITING), 0);
        x.day();
        due("promise 10, two of one JOINER, one of another", x.ofItem(0, WAITING), 3);
        due("promise 10, of the other ITEM", x.ofItem(3, WAITING), 1);
        x.day();
        due("promise 10, one more, from START", x.ofItem(0, WAITING), 4);
        due("promise 10, one more of the other ITEM", x.ofItem(3, WAITING), 2);
        x.leave(0);
        due("promise 10, none of one who has LEFT", x.ofItem(0, WAITING), 2);
        due("promise 10, of the other ITEM neither", x.ofItem(3, WAITING), 1);
        due("promise 10, of an ITEM without a KIT", x.ofItem(1, WAITING), 0);
    }

    /** 10: "READY" is what counts, with STOCK, too, until the next DAY begins. */
    private static void ofItemWaitingWithStock() {
        OnboardingWorks x = new OnboardingWorks();
        kit(x, 1, 0);
        joins(x, 1, 0);
        joins(x, 1, 0);
        x.day();
        x.stock(0, 1);
        due("promise 10, both wait until tomorrow", x.ofItem(0, WAITING), 2);
        x.day();
        due("promise 10, one waits", x.ofItem(0, WAITING), 1);
    }
}
