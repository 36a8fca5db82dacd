/** The section "Terms", 4, sentence by sentence: SESSIONS, and how all is BOOKED. */
public final class TermsFourTest extends Edge {
    public static void main(String[] args) {
        twentySessions();
        seatsOneToNine();
        begunOnTheDayOfTheSession();
        oneBookedForACourse();
        bookedEverAfter();
        joinerByJoiner();
        joinersThatHaveNotLeft();
        stepByStep();
        openAndNotBooked();
        sessionsOfThatCourse();
        seatThatNobodyHasBooked();
        dayNotAhead();
        earliestDay();
        smallestNumber();
        noneIfThereIsNone();
        noneIfNotKnown();
        Check.end();
    }

    /** "SESSIONS: at most 20, numbered from 0" */
    private static void twentySessions() {
        OnboardingWorks x = new OnboardingWorks();
        course(x, 1);
        for (int s = 0; s < 20; s++) {
            due("Terms 4, SESSIONS are numbered from 0", x.session(0, s == 19 ? 2 : 1, 1), s);
        }
        Check.refused(x, Check.STATE, "Terms 4, SESSIONS: at most 20", () -> x.session(0, 3, 1));
        due("Terms 4, twenty SESSIONS", x.many(3), 20);
        joins(x, 2, 0);
        due("Terms 4, the last SESSION is BOOKED as others are", x.ofStep(0, 0, BOOKED), 19);
        toDay(x, 2);
        due("Terms 4, and begins", x.ofStep(0, 0, STATE), RUNNING);
        Check.refused(x, Check.STATE, "Terms 4, those that were count, too", () -> x.session(0, 3, 1));
    }

    /** "each of a COURSE, on a DAY .., with SEATS, 1 to 9" */
    private static void seatsOneToNine() {
        OnboardingWorks x = new OnboardingWorks();
        course(x, 1);
        Check.refused(x, Check.ARGUMENT, "Terms 4, no SESSION without SEATS", () -> x.session(0, 5, 0));
        Check.refused(x, Check.ARGUMENT, "Terms 4, no SESSION with 10 SEATS", () -> x.session(0, 5, 10));
        due("Terms 4, 1 SEAT", x.session(0, 5, 1), 0);
        due("Terms 4, 9 SEATS", x.session(0, 6, 9), 1);
        for (int j = 0; j < 8; j++) {
            joins(x, 1, 0);
            due("Terms 4, one has the one SEAT", x.ofStep(j, 0, BOOKED), j == 0 ? 0 : 1);
        }
        due("Terms 4, 1 SEAT is BOOKED", x.ofSession(0, TAKEN), 1);
        due("Terms 4, 7 of 9 SEATS are BOOKED", x.ofSession(1, TAKEN), 7);
    }

    /** "on a DAY (on which it begins)" */
    private static void begunOnTheDayOfTheSession() {
        OnboardingWorks x = new OnboardingWorks();
        course(x, 2);
        x.session(0, 4, 1);
        joins(x, 1, 0);
        toDay(x, 3);
        due("Terms 4, not ahead of the DAY of its SESSION", x.ofStep(0, 0, STATE), OPEN);
        x.day();
        due("Terms 4, it begins on the DAY of its SESSION", x.ofStep(0, 0, STATE), RUNNING);
        due("Terms 4, that is the DAY on which it began", x.ofStep(0, 0, BEGIN), 4);
        toDay(x, 6);
        due("Terms 4, it is DONE two DAYS later", x.ofStep(0, 0, STATE), DONE);
    }

    /** "A JOINER has at most one BOOKED for a COURSE" */
    private static void oneBookedForACourse() {
        OnboardingWorks x = new OnboardingWorks();
        course(x, 1);
        course(x, 1);
        joins(x, 1, 0, 1);
        x.session(0, 5, 9);
        x.session(0, 7, 9);
        x.session(0, 3, 9);
        due("Terms 4, it keeps the one that it has", x.ofStep(0, 0, BOOKED), 0);
        due("Terms 4, one SEAT in all", x.many(9), 1);
        x.session(1, 5, 9);
        due("Terms 4, one for each COURSE", x.ofStep(0, 1, BOOKED), 3);
        due("Terms 4, two SEATS in all", x.many(9), 2);
    }

    /** "it stays so as that begins, and ever after" */
    private static void bookedEverAfter() {
        OnboardingWorks x = new OnboardingWorks();
        course(x, 1);
        x.session(0, 2, 1);
        x.session(0, 3, 1);
        joins(x, 1, 0);
        int[] states = {OPEN, OPEN, RUNNING, DONE, DONE};
        for (int day = 0; day <= 4; day++) {
            toDay(x, day);
            due("Terms 4, its state on DAY " + day, x.ofStep(0, 0, STATE), states[day]);
            due("Terms 4, it stays BOOKED on DAY " + day, x.ofStep(0, 0, BOOKED), 0);
            due("Terms 4, so does its SEAT", x.ofSession(0, TAKEN), 1);
        }
        x.leave(0);
        due("Terms 4, it stays BOOKED as one LEAVES", x.ofStep(0, 0, BOOKED), 0);
        x.day();
        due("Terms 4, it is TAKEN BACK", x.ofStep(0, 0, STATE), TAKEN_BACK);
        due("Terms 4, and stays BOOKED", x.ofStep(0, 0, BOOKED), 0);
        due("Terms 4, so does its SEAT then", x.ofSession(0, TAKEN), 1);
        due("Terms 4, and none is LOST", x.ofStep(0, 0, LOST), 0);
    }

    /** "To BOOK for all: JOINER by JOINER" */
    private static void joinerByJoiner() {
        OnboardingWorks x = new OnboardingWorks();
        course(x, 1);
        joins(x, 5, 0);
        joins(x, 1, 0);
        joins(x, 1, 0);
        x.session(0, 5, 1);
        due("Terms 4, the smaller JOINER has the SEAT", x.ofStep(0, 0, BOOKED), 0);
        x.session(0, 4, 1);
        due("Terms 4, then the next one that can", x.ofStep(1, 0, BOOKED), 1);
        x.session(0, 6, 2);
        due("Terms 4, then the last one", x.ofStep(2, 0, BOOKED), 2);
        due("Terms 4, and it alone", x.ofSession(2, TAKEN), 1);
    }

    /** "JOINER by JOINER that has not LEFT" */
    private static void joinersThatHaveNotLeft() {
        OnboardingWorks x = new OnboardingWorks();
        course(x, 1);
        joins(x, 1, 0);
        joins(x, 1, 0);
        x.leave(0);
        x.session(0, 5, 1);
        due("Terms 4, nothing is BOOKED for one who has LEFT", x.ofStep(0, 0, BOOKED), NONE);
        due("Terms 4, so the next one has the SEAT", x.ofStep(1, 0, BOOKED), 0);
        x.session(0, 6, 9);
        x.day();
        due("Terms 4, not on a later DAY", x.ofStep(0, 0, BOOKED), NONE);
    }

    /** "STEP by STEP": what NEEDS a COURSE is EXPECTED behind the SESSION that it has got just now. */
    private static void stepByStep() {
        OnboardingWorks x = new OnboardingWorks();
        course(x, 2);
        meeting(x, 1, 0);
        course(x, 1, 1);
        x.session(2, 7, 1);
        x.session(2, 8, 1);
        x.session(0, 5, 1);
        joins(x, 1, 0, 1, 2);
        due("Terms 4, the first COURSE", x.ofStep(0, 0, BOOKED), 2);
        due("Terms 4, a COURSE behind it, over a MEETING", x.ofStep(0, 2, BOOKED), 1);
        due("Terms 4, on that very DAY", x.ofStep(0, 2, BEGIN), 8);
    }

    /** "that is a COURSE, OPEN, and for which none is BOOKED" */
    private static void openAndNotBooked() {
        OnboardingWorks x = new OnboardingWorks();
        course(x, 9);
        x.session(0, 2, 1);
        joins(x, 1, 0);
        x.session(0, 1, 1);
        due("Terms 4, one BOOKED stays, if an earlier one comes", x.ofStep(0, 0, BOOKED), 0);
        toDay(x, 2);
        x.session(0, 3, 1);
        due("Terms 4, none for a COURSE that is RUNNING", x.ofStep(0, 0, BOOKED), 0);
        toDay(x, 11);
        x.session(0, 12, 1);
        due("Terms 4, none for a COURSE that is DONE", x.ofStep(0, 0, BOOKED), 0);
        due("Terms 4, one SEAT in all", x.many(9), 1);
    }

    /** "of the SESSIONS of it" */
    private static void sessionsOfThatCourse() {
        OnboardingWorks x = new OnboardingWorks();
        course(x, 1);
        course(x, 1);
        x.session(0, 5, 9);
        joins(x, 1, 1);
        due("Terms 4, none of another COURSE", x.ofStep(0, 1, BOOKED), NONE);
        x.session(1, 6, 9);
        due("Terms 4, one of its own", x.ofStep(0, 1, BOOKED), 1);
    }

    /** "with a SEAT that nobody has BOOKED" */
    private static void seatThatNobodyHasBooked() {
        OnboardingWorks x = new OnboardingWorks();
        course(x, 1);
        x.session(0, 3, 2);
        x.session(0, 4, 1);
        for (int j = 0; j < 4; j++) {
            joins(x, 1, 0);
        }
        int[] booked = {0, 0, 1, NONE};
        for (int j = 0; j < 4; j++) {
            due("Terms 4, the SEATS of JOINER " + j, x.ofStep(j, 0, BOOKED), booked[j]);
        }
        x.leave(1);
        due("Terms 4, a SEAT that is free again", x.ofStep(3, 0, BOOKED), 0);
        due("Terms 4, one BOOKED later stays", x.ofStep(2, 0, BOOKED), 1);
    }

    /** "on a DAY that is not ahead of that on which it is EXPECTED to begin" */
    private static void dayNotAhead() {
        OnboardingWorks x = new OnboardingWorks();
        meeting(x, 2);
        course(x, 1, 0);
        x.session(1, 5, 1);
        joins(x, 4, 0, 1);
        due("Terms 4, EXPECTED on DAY 6", x.ofStep(0, 1, BEGIN), 6);
        due("Terms 4, not one a DAY ahead of it", x.ofStep(0, 1, BOOKED), NONE);
        x.session(1, 7, 1);
        due("Terms 4, one a DAY behind it", x.ofStep(0, 1, BOOKED), 1);
        joins(x, 4, 0, 1);
        x.session(1, 6, 1);
        due("Terms 4, one on that very DAY", x.ofStep(1, 1, BOOKED), 2);
    }

    /** "the one with the earliest DAY" */
    private static void earliestDay() {
        OnboardingWorks x = new OnboardingWorks();
        course(x, 1);
        x.session(0, 199, 9);
        x.session(0, 5, 9);
        x.session(0, 4, 9);
        x.session(0, 6, 9);
        joins(x, 4, 0);
        joins(x, 5, 0);
        joins(x, 7, 0);
        due("Terms 4, the earliest DAY", x.ofStep(0, 0, BOOKED), 2);
        due("Terms 4, the earliest of those not ahead", x.ofStep(1, 0, BOOKED), 1);
        due("Terms 4, DAY 199, if there is no other", x.ofStep(2, 0, BOOKED), 0);
    }

    /** "of several the smallest number" */
    private static void smallestNumber() {
        OnboardingWorks x = new OnboardingWorks();
        course(x, 1);
        x.session(0, 6, 9);
        x.session(0, 5, 1);
        x.session(0, 5, 9);
        x.session(0, 5, 9);
        joins(x, 1, 0);
        joins(x, 1, 0);
        due("Terms 4, of several of one DAY the smallest", x.ofStep(0, 0, BOOKED), 1);
        due("Terms 4, the smallest with a SEAT", x.ofStep(1, 0, BOOKED), 2);
    }

    /** "none, if there is none" */
    private static void noneIfThereIsNone() {
        OnboardingWorks x = new OnboardingWorks();
        course(x, 1);
        joins(x, 1, 0);
        due("Terms 4, none without a SESSION", x.ofStep(0, 0, BOOKED), NONE);
        toDay(x, 5);
        due("Terms 4, and it does not begin", x.ofStep(0, 0, STATE), OPEN);
        due("Terms 4, nor is one LOST", x.ofStep(0, 0, LOST), 0);
        x.session(0, 6, 1);
        due("Terms 4, tomorrow's", x.ofStep(0, 0, BOOKED), 0);
    }

    /** "or that is not known" */
    private static void noneIfNotKnown() {
        OnboardingWorks x = new OnboardingWorks();
        kit(x, 1, 0);
        course(x, 1, 0);
        course(x, 1);
        x.session(1, 199, 9);
        x.session(2, 199, 9);
        joins(x, 1, 0, 1, 2);
        due("Terms 4, not known, so none", x.ofStep(0, 1, BOOKED), NONE);
        due("Terms 4, but one for that which is known", x.ofStep(0, 2, BOOKED), 1);
        x.order(0, 1, 5);
        x.day();
        due("Terms 4, one as soon as it is known", x.ofStep(0, 1, BOOKED), 0);
    }
}
