/** The section "Terms", 5, sentence by sentence: what comes behind what as a DAY begins. */
public final class TermsFiveTest extends Edge {
    public static void main(String[] args) {
        ordersAreInTheStock();
        ordersComeFirst();
        stepsAtTheirEndAreDone();
        doneAheadOfWhatBegins();
        beginsJoinerByJoiner();
        beginsStepByStep();
        beginsIfReady();
        kitOnlyIfThereIsOne();
        courseOnlyWithItsSession();
        lostIfItIsOpen();
        notLostAsItBegins();
        lostTwice();
        bookedBehindWhatIsLost();
        bookedBehindAllThatIsLost();
        bookedOnEachDay();
        nothingGoesOnForOneWhoLeft();
        takenBackOneADay();
        takenBackTheLastThatBegan();
        takenBackTheGreatestNumber();
        takenBackRunningAndDone();
        takenBackJoinerByJoiner();
        kitComesBack();
        takenBackBehindTheBooking();
        takenBackBehindWhatBegins();
        Check.end();
    }

    /** "ORDERS that COME on it are in the STOCK." */
    private static void ordersAreInTheStock() {
        OnboardingWorks x = new OnboardingWorks();
        x.order(0, 2, 3);
        x.order(0, 3, 3);
        x.order(1, 4, 3);
        x.order(0, 5, 4);
        x.stock(0, 1);
        toDay(x, 2);
        due("Terms 5, nothing on the DAY ahead", x.ofItem(0, STOCK), 1);
        x.day();
        due("Terms 5, all ORDERS that COME on the DAY", x.ofItem(0, STOCK), 6);
        due("Terms 5, each of its own ITEM", x.ofItem(1, STOCK), 4);
        due("Terms 5, not that of tomorrow", x.ofItem(0, TO_COME), 5);
        x.day();
        due("Terms 5, each once", x.ofItem(0, STOCK), 11);
    }

    /** "one behind the other": ORDERS come first, so a KIT begins with them on that DAY. */
    private static void ordersComeFirst() {
        OnboardingWorks x = new OnboardingWorks();
        kit(x, 1, 0);
        joins(x, 1, 0);
        x.order(0, 1, 2);
        x.day();
        due("Terms 5, no ITEM on the DAY ahead", x.ofStep(0, 0, STATE), OPEN);
        x.day();
        due("Terms 5, the ORDER is there as the KIT begins", x.ofStep(0, 0, STATE), RUNNING);
        due("Terms 5, and is taken", x.ofItem(0, STOCK), 0);
    }

    /** "JOINER by JOINER that has not LEFT: STEPS that are at their end are DONE." */
    private static void stepsAtTheirEndAreDone() {
        OnboardingWorks x = new OnboardingWorks();
        meeting(x, 1);
        meeting(x, 2);
        joins(x, 1, 0, 1);
        joins(x, 1, 0, 1);
        joins(x, 2, 0, 1);
        int[] done = {0, 2, 3, 1, 0};
        for (int day = 1; day <= 5; day++) {
            due("Terms 5, DONE by DAY " + day, x.day(), done[day - 1]);
        }
        due("Terms 5, all are DONE", x.many(6), 6);
    }

    /** "STEP by STEP that is READY: it begins": behind what is DONE by that DAY. */
    private static void doneAheadOfWhatBegins() {
        OnboardingWorks x = new OnboardingWorks();
        meeting(x, 1);
        meeting(x, 1, 0);
        meeting(x, 1, 1);
        joins(x, 1, 0, 1, 2);
        x.day();
        dueOfSteps("Terms 5, DAY 1", x, 0, STATE, RUNNING, OPEN, OPEN);
        x.day();
        dueOfSteps("Terms 5, DAY 2", x, 0, STATE, DONE, RUNNING, OPEN);
        x.day();
        dueOfSteps("Terms 5, DAY 3", x, 0, STATE, DONE, DONE, RUNNING);
    }

    /** "JOINER by JOINER that has not LEFT" */
    private static void beginsJoinerByJoiner() {
        OnboardingWorks x = new OnboardingWorks();
        kit(x, 1, 0);
        kit(x, 1, 0);
        joins(x, 1, 1);
        joins(x, 1, 1);
        joins(x, 1, 0);
        x.leave(0);
        x.stock(0, 1);
        x.day();
        due("Terms 5, not one who has LEFT", x.ofStep(0, 1, STATE), OPEN);
        due("Terms 5, the smaller JOINER, not the smaller STEP", x.ofStep(1, 1, STATE), RUNNING);
        due("Terms 5, nothing is there for the next", x.ofStep(2, 0, STATE), OPEN);
        x.stock(0, 1);
        x.day();
        due("Terms 5, who has it on the next DAY", x.ofStep(2, 0, STATE), RUNNING);
        due("Terms 5, still not one who has LEFT", x.ofStep(0, 1, STATE), OPEN);
    }

    /** "STEP by STEP" */
    private static void beginsStepByStep() {
        OnboardingWorks x = new OnboardingWorks();
        for (int s = 0; s < 3; s++) {
            kit(x, 1, 2);
        }
        joins(x, 1, 0, 1, 2);
        x.stock(2, 2);
        x.day();
        dueOfSteps("Terms 5, the smaller numbers first", x, 0, STATE, RUNNING, RUNNING, OPEN);
    }

    /** "that is READY": one that is not takes nothing from those behind it. */
    private static void beginsIfReady() {
        OnboardingWorks x = new OnboardingWorks();
        meeting(x, 1);
        kit(x, 1, 0, 0);
        kit(x, 1, 0);
        joins(x, 2, 2);
        joins(x, 1, 0, 1);
        joins(x, 1, 2);
        x.stock(0, 1);
        x.day();
        due("Terms 5, not ahead of START", x.ofStep(0, 2, STATE), OPEN);
        due("Terms 5, not ahead of what it NEEDS", x.ofStep(1, 1, STATE), OPEN);
        due("Terms 5, but one that is READY", x.ofStep(2, 2, STATE), RUNNING);
    }

    /** "but a KIT only if there is one of its ITEM" */
    private static void kitOnlyIfThereIsOne() {
        OnboardingWorks x = new OnboardingWorks();
        kit(x, 1, 0);
        meeting(x, 1);
        joins(x, 1, 0, 1);
        x.stock(1, 20);
        x.day();
        dueOfSteps("Terms 5, STOCK 0 of its ITEM", x, 0, STATE, OPEN, RUNNING);
        due("Terms 5, nothing is taken of another", x.ofItem(1, STOCK), 20);
        due("Terms 5, nor below 0", x.ofItem(0, STOCK), 0);
        x.stock(0, 1);
        x.day();
        dueOfSteps("Terms 5, STOCK 1 of its ITEM", x, 0, STATE, RUNNING, DONE);
    }

    /** "a COURSE only if the SESSION that it has BOOKED is on this DAY" */
    private static void courseOnlyWithItsSession() {
        OnboardingWorks x = new OnboardingWorks();
        course(x, 1);
        x.session(0, 3, 1);
        x.session(0, 2, 1);
        joins(x, 3, 0);
        joins(x, 1, 0);
        joins(x, 1, 0);
        toDay(x, 2);
        due("Terms 5, it is on DAY 3", x.ofStep(0, 0, STATE), OPEN);
        due("Terms 5, it is on this DAY", x.ofStep(1, 0, STATE), RUNNING);
        due("Terms 5, none is BOOKED", x.ofStep(2, 0, STATE), OPEN);
        x.day();
        due("Terms 5, now it is on this DAY", x.ofStep(0, 0, STATE), RUNNING);
        due("Terms 5, a SESSION without a SEAT for it", x.ofStep(2, 0, STATE), OPEN);
    }

    /** A KIT of an ORDER for DAY 2, and a COURSE that NEEDS it. */
    private static OnboardingWorks courseBehindKit() {
        OnboardingWorks x = new OnboardingWorks();
        kit(x, 1, 0);
        course(x, 1, 0);
        x.order(0, 1, 2);
        return x;
    }

    /** "STEP by STEP that is a COURSE, and OPEN: if the SESSION .. is on this DAY, that is LOST" */
    private static void lostIfItIsOpen() {
        OnboardingWorks x = courseBehindKit();
        x.session(1, 3, 2);
        joins(x, 1, 0, 1);
        due("Terms 5, BOOKED for DAY 3", x.ofStep(0, 1, BOOKED), 0);
        x.late(0, 1);
        toDay(x, 2);
        due("Terms 5, not LOST ahead of that DAY", x.ofStep(0, 1, LOST), 0);
        due("Terms 5, BOOKED still", x.ofStep(0, 1, BOOKED), 0);
        x.day();
        due("Terms 5, LOST on that DAY", x.ofStep(0, 1, LOST), 1);
        due("Terms 5, it is not BOOKED any more", x.ofStep(0, 1, BOOKED), NONE);
        due("Terms 5, nor is its SEAT", x.ofSession(0, TAKEN), 0);
        due("Terms 5, it is OPEN", x.ofStep(0, 1, STATE), OPEN);
        toDay(x, 9);
        due("Terms 5, LOST once", x.ofStep(0, 1, LOST), 1);
    }

    /** "and OPEN": one that begins on that DAY is not LOST. */
    private static void notLostAsItBegins() {
        OnboardingWorks x = courseBehindKit();
        x.session(1, 3, 2);
        joins(x, 1, 0, 1);
        joins(x, 1, 0, 1);
        toDay(x, 3);
        due("Terms 5, it is RUNNING", x.ofStep(0, 1, STATE), RUNNING);
        due("Terms 5, so it is not LOST", x.ofStep(0, 1, LOST), 0);
        due("Terms 5, the other JOINER had no KIT", x.ofStep(1, 1, LOST), 1);
        due("Terms 5, one of two SEATS", x.ofSession(0, TAKEN), 1);
    }

    /** Each SESSION that is LOST counts. */
    private static void lostTwice() {
        OnboardingWorks x = courseBehindKit();
        x.session(1, 3, 1);
        x.session(1, 5, 1);
        joins(x, 1, 0, 1);
        x.late(0, 2);
        toDay(x, 3);
        due("Terms 5, one is LOST", x.ofStep(0, 1, LOST), 1);
        due("Terms 5, then the next is BOOKED", x.ofStep(0, 1, BOOKED), 1);
        x.late(0, 1);
        toDay(x, 5);
        due("Terms 5, two are LOST", x.ofStep(0, 1, LOST), 2);
        due("Terms 5, and none is BOOKED", x.ofStep(0, 1, BOOKED), NONE);
    }

    /** "Then all is BOOKED, as above." */
    private static void bookedBehindWhatIsLost() {
        OnboardingWorks x = courseBehindKit();
        x.session(1, 3, 1);
        joins(x, 1, 0, 1);
        x.late(0, 1);
        x.session(1, 5, 1);
        x.session(1, 4, 1);
        toDay(x, 3);
        due("Terms 5, LOST", x.ofStep(0, 1, LOST), 1);
        due("Terms 5, BOOKED again: the earliest behind its KIT", x.ofStep(0, 1, BOOKED), 2);
        x.day();
        due("Terms 5, so it begins on the next DAY", x.ofStep(0, 1, STATE), RUNNING);
    }

    /** "Then all is BOOKED": behind what all JOINERS have LOST, so the smaller ones have the SEATS again. */
    private static void bookedBehindAllThatIsLost() {
        OnboardingWorks x = new OnboardingWorks();
        kit(x, 1, 0);
        kit(x, 1, 1);
        course(x, 1, 0, 1);
        x.order(0, 2, 2);
        x.session(2, 3, 2);
        joins(x, 1, 0, 2);
        joins(x, 1, 0, 2);
        joins(x, 1, 1, 2);
        x.late(0, 2);
        x.session(2, 5, 2);
        toDay(x, 2);
        x.order(1, 1, 4);
        x.day();
        int[] lost = {1, 1, 0};
        int[] booked = {1, 1, NONE};
        for (int j = 0; j < 3; j++) {
            due("Terms 5, LOST by JOINER " + j, x.ofStep(j, 2, LOST), lost[j]);
            due("Terms 5, BOOKED behind that for JOINER " + j, x.ofStep(j, 2, BOOKED), booked[j]);
        }
        due("Terms 5, the last one has no SEAT, though it could", x.ofStep(2, 2, BEGIN), 5);
    }

    /** "Then all is BOOKED": on a DAY on which nothing is LOST, too, and as it is behind what began. */
    private static void bookedOnEachDay() {
        OnboardingWorks x = new OnboardingWorks();
        kit(x, 1, 0);
        course(x, 1, 0);
        joins(x, 1, 0, 1);
        x.session(1, 2, 1);
        x.session(1, 3, 1);
        x.stock(0, 1);
        due("Terms 5, the STOCK alone BOOKS nothing", x.ofStep(0, 1, BOOKED), NONE);
        x.day();
        due("Terms 5, the KIT began, so the COURSE is BOOKED", x.ofStep(0, 1, BOOKED), 0);
    }

    /** "(nothing goes on for it any more)" */
    private static void nothingGoesOnForOneWhoLeft() {
        OnboardingWorks x = new OnboardingWorks();
        meeting(x, 1);
        meeting(x, 1, 0);
        meeting(x, 3);
        joins(x, 1, 0, 1, 2);
        x.day();
        x.leave(0);
        due("Terms 5, nothing is DONE for one who LEFT", x.day(), 0);
        dueOfSteps("Terms 5, RUNNING behind its end", x, 0, STATE, RUNNING, OPEN, TAKEN_BACK);
        x.day();
        dueOfSteps("Terms 5, it is TAKEN BACK", x, 0, STATE, TAKEN_BACK, OPEN, TAKEN_BACK);
        toDay(x, 9);
        dueOfSteps("Terms 5, what is OPEN stays so", x, 0, STATE, TAKEN_BACK, OPEN, TAKEN_BACK);
    }

    /** "JOINER by JOINER that has LEFT: of its STEPS .. the one .. is TAKEN BACK" */
    private static void takenBackOneADay() {
        OnboardingWorks x = new OnboardingWorks();
        meeting(x, 1);
        meeting(x, 1, 0);
        meeting(x, 1, 1);
        joins(x, 1, 0, 1, 2);
        toDay(x, 3);
        due("Terms 5, three are to be TAKEN BACK", x.leave(0), 3);
        dueOfSteps("Terms 5, none at once", x, 0, STATE, DONE, DONE, RUNNING);
        x.day();
        dueOfSteps("Terms 5, the last", x, 0, STATE, DONE, DONE, TAKEN_BACK);
        x.day();
        dueOfSteps("Terms 5, the one ahead of it", x, 0, STATE, DONE, TAKEN_BACK, TAKEN_BACK);
        x.day();
        dueOfSteps("Terms 5, the first", x, 0, STATE, TAKEN_BACK, TAKEN_BACK, TAKEN_BACK);
        x.day();
        dueOfSteps("Terms 5, no more", x, 0, STATE, TAKEN_BACK, TAKEN_BACK, TAKEN_BACK);
    }

    /** "the one that began last" */
    private static void takenBackTheLastThatBegan() {
        OnboardingWorks x = new OnboardingWorks();
        kit(x, 1, 0);
        meeting(x, 1);
        kit(x, 1, 1);
        joins(x, 1, 0, 1, 2);
        x.order(0, 1, 3);
        x.order(1, 1, 2);
        toDay(x, 4);
        x.leave(0);
        x.day();
        dueOfSteps("Terms 5, that of DAY 3", x, 0, STATE, TAKEN_BACK, DONE, DONE);
        x.day();
        dueOfSteps("Terms 5, that of DAY 2", x, 0, STATE, TAKEN_BACK, DONE, TAKEN_BACK);
        x.day();
        dueOfSteps("Terms 5, that of DAY 1", x, 0, STATE, TAKEN_BACK, TAKEN_BACK, TAKEN_BACK);
    }

    /** "of several that with the greatest number" */
    private static void takenBackTheGreatestNumber() {
        OnboardingWorks x = new OnboardingWorks();
        for (int s = 0; s < 12; s++) {
            meeting(x, 2);
        }
        joins(x, 1, 0, 5, 11);
        x.day();
        x.leave(0);
        for (int last : new int[] {11, 5, 0}) {
            due("Terms 5, ahead of that", x.ofStep(0, last, STATE), RUNNING);
            x.day();
            due("Terms 5, of one DAY the greatest number", x.ofStep(0, last, STATE), TAKEN_BACK);
        }
    }

    /** "of its STEPS that are RUNNING, or DONE" */
    private static void takenBackRunningAndDone() {
        OnboardingWorks x = new OnboardingWorks();
        meeting(x, 9);
        meeting(x, 1);
        meeting(x, 1, 1);
        joins(x, 1, 0, 1, 2);
        toDay(x, 3);
        dueOfSteps("Terms 5, one is RUNNING", x, 0, STATE, RUNNING, DONE, DONE);
        x.leave(0);
        x.day();
        dueOfSteps("Terms 5, a DONE one that began later", x, 0, STATE, RUNNING, DONE, TAKEN_BACK);
        x.day();
        dueOfSteps("Terms 5, a DONE one of a greater number", x, 0, STATE, RUNNING, TAKEN_BACK, TAKEN_BACK);
        x.day();
        dueOfSteps("Terms 5, the RUNNING one", x, 0, STATE, TAKEN_BACK, TAKEN_BACK, TAKEN_BACK);
    }

    /** "JOINER by JOINER that has LEFT" */
    private static void takenBackJoinerByJoiner() {
        OnboardingWorks x = new OnboardingWorks();
        meeting(x, 1);
        for (int j = 0; j < 3; j++) {
            joins(x, 1, 0);
        }
        x.day();
        x.leave(0);
        x.leave(2);
        due("Terms 5, one goes on", x.day(), 1);
        due("Terms 5, one of each that has LEFT", x.ofStep(0, 0, STATE), TAKEN_BACK);
        due("Terms 5, none of another", x.ofStep(1, 0, STATE), DONE);
        due("Terms 5, of the last one, too", x.ofStep(2, 0, STATE), TAKEN_BACK);
    }

    /** "the ITEM of a KIT is in the STOCK again" */
    private static void kitComesBack() {
        OnboardingWorks x = new OnboardingWorks();
        kit(x, 1, 1);
        kit(x, 9, 3);
        meeting(x, 1);
        kit(x, 1, 2);
        joins(x, 1, 0, 1, 2, 3);
        x.stock(1, 1);
        x.stock(3, 1);
        toDay(x, 2);
        x.leave(0);
        due("Terms 5, not at once", x.ofItem(3, STOCK), 0);
        x.day();
        due("Terms 5, a MEETING has no ITEM", x.ofItem(0, STOCK), 0);
        due("Terms 5, nothing is back yet", x.ofItem(3, STOCK), 0);
        x.day();
        due("Terms 5, of a KIT that is RUNNING", x.ofItem(3, STOCK), 1);
        due("Terms 5, not yet the other", x.ofItem(1, STOCK), 0);
        x.day();
        due("Terms 5, of a KIT that is DONE", x.ofItem(1, STOCK), 1);
        toDay(x, 9);
        due("Terms 5, each once", x.ofItem(1, STOCK) + x.ofItem(3, STOCK), 2);
        due("Terms 5, none of a KIT that never began", x.ofItem(2, STOCK), 0);
    }

    /** One has a KIT, and LEAVES on DAY 1; the other waits for it, and for a COURSE behind it. */
    private static OnboardingWorks oneKitForTwo() {
        OnboardingWorks x = new OnboardingWorks();
        kit(x, 1, 0);
        course(x, 1, 0);
        x.stock(0, 1);
        joins(x, 1, 0);
        x.day();
        joins(x, 2, 0, 1);
        x.session(1, 9, 1);
        x.leave(0);
        return x;
    }

    /** "Then all is BOOKED"; TAKEN BACK is what comes behind that. */
    private static void takenBackBehindTheBooking() {
        OnboardingWorks x = oneKitForTwo();
        x.day();
        due("Terms 5, the KIT is back, so it is known", x.ofStep(1, 1, BEGIN), 4);
        due("Terms 5, but it was not as all was BOOKED", x.ofStep(1, 1, BOOKED), NONE);
        x.day();
        due("Terms 5, on the next DAY it is BOOKED", x.ofStep(1, 1, BOOKED), 0);
    }

    /** What is TAKEN BACK comes behind what begins, too. */
    private static void takenBackBehindWhatBegins() {
        OnboardingWorks x = oneKitForTwo();
        x.day();
        due("Terms 5, the KIT is in the STOCK", x.ofItem(0, STOCK), 1);
        due("Terms 5, but nothing begins with it on that DAY", x.ofStep(1, 0, STATE), OPEN);
        x.day();
        due("Terms 5, it begins on the next", x.ofStep(1, 0, STATE), RUNNING);
    }
}
