/** Promises 11 to 17: what the calls return and do, at the edges; RefusalsTest has what they refuse. */
public final class AnswersElevenTo17Test extends Edge {
    public static void main(String[] args) {
        joinNumbers();
        joinStarts();
        joinThenAllIsBooked();
        leaveHowMany();
        leaveWhatIsOpenIsNotBooked();
        leaveThenAllIsBooked();
        dayHowManyAreDone();
        dayUpToTheLast();
        ofStepState();
        ofStepOfOneWhoLeft();
        ofStepBooked();
        ofStepLong();
        ofStepLost();
        ofJoinerStepsAndStart();
        ofJoinerCounts();
        ofJoinerRights();
        ofJoinerHasLeft();
        ofJoinerLastEnd();
        manyThere();
        manyOfAll();
        meanWithoutAny();
        meanNotCut();
        meanOfThoseKnown();
        Check.end();
    }

    /** 11: "Returns the number of the JOINER." */
    private static void joinNumbers() {
        OnboardingWorks x = new OnboardingWorks();
        meeting(x, 1);
        meeting(x, 1);
        x.role(0, 1);
        x.role(3, 2);
        due("promise 11, with ROLE 0", x.join(0, 1), 0);
        due("promise 11, with ROLE 3", x.join(3, 1), 1);
        due("promise 11, the STEPS of ROLE 0", x.ofJoiner(0, STEPS), 1);
        due("promise 11, the STEPS of ROLE 3", x.ofJoiner(1, STEPS), 2);
        x.leave(0);
        due("promise 11, a number is not used again", x.join(0, 1), 2);
        due("promise 11, the JOINERS then", x.many(4), 3);
    }

    /** 11: "start: START": from tomorrow to DAY 199. */
    private static void joinStarts() {
        OnboardingWorks x = new OnboardingWorks();
        meeting(x, 1);
        toDay(x, 5);
        joins(x, 6, 0);
        joins(x, 199, 0);
        due("promise 11, START tomorrow", x.ofJoiner(0, START), 6);
        due("promise 11, START on DAY 199", x.ofJoiner(1, START), 199);
        x.day();
        due("promise 11, it begins on START", x.ofStep(0, 0, STATE), RUNNING);
        toDay(x, 198);
        due("promise 11, the other does not yet", x.ofStep(1, 0, STATE), OPEN);
        x.day();
        due("promise 11, but on DAY 199", x.ofStep(1, 0, STATE), RUNNING);
    }

    /** 11: "then all is BOOKED": for the others, too, and these first. */
    private static void joinThenAllIsBooked() {
        OnboardingWorks x = new OnboardingWorks();
        kit(x, 1, 0);
        course(x, 1, 0);
        x.session(1, 9, 2);
        joins(x, 1, 0, 1);
        x.order(0, 1, 5);
        due("promise 11, not BOOKED yet", x.ofStep(0, 1, BOOKED), NONE);
        joins(x, 1, 1);
        due("promise 11, BOOKED for the one who joins", x.ofStep(1, 1, BOOKED), 0);
        due("promise 11, BOOKED for the others, too", x.ofStep(0, 1, BOOKED), 0);
    }

    /** 12: "Returns how many STEPS are to be TAKEN BACK." */
    private static void leaveHowMany() {
        OnboardingWorks x = new OnboardingWorks();
        for (int s = 0; s < 12; s++) {
            meeting(x, s < 6 ? 1 : 9);
        }
        x.role(0, 4095);
        x.join(0, 1);
        x.join(0, 1);
        x.join(0, 9);
        due("promise 12, none, as nothing began", x.leave(2), 0);
        x.day();
        due("promise 12, all twelve are RUNNING", x.leave(0), 12);
        x.day();
        due("promise 12, six are DONE, six RUNNING", x.leave(1), 12);
        due("promise 12, nothing is TAKEN BACK by that", x.many(6), 6);
    }

    /** 12: "all that is BOOKED for STEPS of that one that are OPEN is not any more" */
    private static void leaveWhatIsOpenIsNotBooked() {
        OnboardingWorks x = new OnboardingWorks();
        course(x, 3);
        course(x, 1);
        course(x, 1);
        x.session(0, 1, 1);
        x.session(1, 5, 2);
        x.session(2, 6, 1);
        joins(x, 1, 0, 1, 2);
        joins(x, 1, 1);
        x.day();
        due("promise 12, four SEATS are BOOKED", x.many(9), 4);
        due("promise 12, one is to be TAKEN BACK", x.leave(0), 1);
        dueOfSteps("promise 12, what is RUNNING alone stays BOOKED", x, 0, BOOKED, 0, NONE, NONE);
        due("promise 12, its SEAT, too", x.ofSession(0, TAKEN), 1);
        due("promise 12, the SEAT of another stays", x.ofSession(1, TAKEN), 1);
        due("promise 12, both OPEN ones are free", x.ofSession(2, TAKEN), 0);
        toDay(x, 6);
        dueOfSteps("promise 12, that is not LOST", x, 0, LOST, 0, 0, 0);
    }

    /** 12: "then all is BOOKED": the SEAT goes to the smallest that has none. */
    private static void leaveThenAllIsBooked() {
        OnboardingWorks x = new OnboardingWorks();
        course(x, 1);
        x.session(0, 5, 1);
        for (int j = 0; j < 4; j++) {
            joins(x, j == 1 ? 6 : 1, 0);
        }
        x.leave(0);
        due("promise 12, not one for whom it is too early", x.ofStep(1, 0, BOOKED), NONE);
        due("promise 12, the smallest that can", x.ofStep(2, 0, BOOKED), 0);
        due("promise 12, and no other", x.ofStep(3, 0, BOOKED), NONE);
        x.leave(2);
        due("promise 12, then the next", x.ofStep(3, 0, BOOKED), 0);
    }

    /** 13: "Returns how many STEPS are DONE by that." */
    private static void dayHowManyAreDone() {
        OnboardingWorks x = new OnboardingWorks();
        for (int s = 0; s < 12; s++) {
            meeting(x, 1);
        }
        x.role(0, 4095);
        for (int j = 0; j < 8; j++) {
            x.join(0, 1);
        }
        due("promise 13, none as all begin", x.day(), 0);
        x.leave(7);
        due("promise 13, all of seven JOINERS, none of one who LEFT", x.day(), 84);
        due("promise 13, these are DONE only once", x.day(), 0);
        due("promise 13, DONE in all", x.many(6), 84);
    }

    /** 13: "if it is DAY 199", not before. */
    private static void dayUpToTheLast() {
        OnboardingWorks x = new OnboardingWorks();
        meeting(x, 1);
        joins(x, 198, 0);
        for (int day = 1; day <= 199; day++) {
            due("promise 13, DONE by DAY " + day, x.day(), day == 199 ? 1 : 0);
            due("promise 13, the DAY", x.many(10), day);
        }
        Check.refused(x, Check.STATE, "promise 13, it is DAY 199", () -> x.day());
    }

    /** 14: "0 its state", of the first and the last STEP. */
    private static void ofStepState() {
        OnboardingWorks x = new OnboardingWorks();
        for (int s = 0; s < 12; s++) {
            meeting(x, 1, s == 0 ? new int[0] : new int[] {s - 1});
        }
        joins(x, 1, 0, 11);
        due("promise 14, STEP 0 is OPEN", x.ofStep(0, 0, STATE), OPEN);
        x.day();
        due("promise 14, STEP 0 is RUNNING", x.ofStep(0, 0, STATE), RUNNING);
        due("promise 14, STEP 11 is RUNNING", x.ofStep(0, 11, STATE), RUNNING);
        Check.refused(x, Check.INDEX, "promise 14, STEP 10 is none of it", () -> x.ofStep(0, 10, STATE));
        x.day();
        due("promise 14, STEP 11 is DONE", x.ofStep(0, 11, STATE), DONE);
        x.leave(0);
        x.day();
        due("promise 14, STEP 11 is TAKEN BACK", x.ofStep(0, 11, STATE), TAKEN_BACK);
        due("promise 14, STEP 0 is not yet", x.ofStep(0, 0, STATE), DONE);
    }

    /** 14: "(1 and 2 NONE, if the JOINER has LEFT)" */
    private static void ofStepOfOneWhoLeft() {
        OnboardingWorks x = new OnboardingWorks();
        meeting(x, 1);
        meeting(x, 2);
        meeting(x, 1, 1);
        joins(x, 1, 0, 1, 2);
        toDay(x, 2);
        dueOfSteps("promise 14, DONE, RUNNING and OPEN", x, 0, BEGIN, 1, 1, 3);
        x.leave(0);
        for (int day = 2; day <= 5; day++) {
            toDay(x, day);
            dueOfSteps("promise 14, LEFT: 1 is NONE", x, 0, BEGIN, NONE, NONE, NONE);
            dueOfSteps("promise 14, LEFT: 2 is NONE", x, 0, END, NONE, NONE, NONE);
            dueOfSteps("promise 14, LEFT: 4 is as it was", x, 0, LONG, 1, 2, 1);
        }
    }

    /** 14: "3 the SESSION that is BOOKED (NONE)" */
    private static void ofStepBooked() {
        OnboardingWorks x = new OnboardingWorks();
        course(x, 1);
        course(x, 1);
        meeting(x, 1);
        x.session(0, 3, 1);
        x.session(0, 2, 1);
        joins(x, 1, 0, 1, 2);
        joins(x, 1, 0, 1, 2);
        joins(x, 1, 0, 1, 2);
        dueOfSteps("promise 14, SESSION 1, as it is earlier", x, 0, BOOKED, 1, NONE, NONE);
        dueOfSteps("promise 14, SESSION 0", x, 1, BOOKED, 0, NONE, NONE);
        dueOfSteps("promise 14, NONE", x, 2, BOOKED, NONE, NONE, NONE);
    }

    /** 14: "4 how long it is, or would be now" */
    private static void ofStepLong() {
        OnboardingWorks x = new OnboardingWorks();
        form(x, 1, 1);
        form(x, 9, 255);
        form(x, 1, 255, 0, 1);
        kit(x, 9, 0);
        joins(x, 2, 0, 1, 2, 3);
        dueOfSteps("promise 14, ahead of START", x, 0, LONG, 2, 13, 5, 9);
        toDay(x, 4);
        dueOfSteps("promise 14, one FIELD of eight is DONE", x, 0, LONG, 2, 13, 5, 9);
        toDay(x, 15);
        dueOfSteps("promise 14, all FIELDS are DONE", x, 0, LONG, 2, 13, 1, 9);
    }

    /** 14: "5 how many SESSIONS were LOST", of that STEP of that JOINER. */
    private static void ofStepLost() {
        OnboardingWorks x = new OnboardingWorks();
        kit(x, 1, 0);
        course(x, 1, 0);
        course(x, 1);
        x.order(0, 1, 1);
        for (int session = 0; session < 10; session++) {
            x.session(1, session + 2, 1);
        }
        x.session(2, 2, 9);
        joins(x, 1, 0, 1, 2);
        // late by one more each DAY: behind what is LOST, it is BOOKED for the DAY after tomorrow
        for (int day = 0; day < 10; day++) {
            x.late(0, 1);
            due("promise 14, LOST up to DAY " + day, x.ofStep(0, 1, LOST), day / 2);
            x.day();
        }
        due("promise 14, none of the other COURSE", x.ofStep(0, 2, LOST), 0);
        due("promise 14, none of the KIT", x.ofStep(0, 0, LOST), 0);
    }

    /** 15: "0 its set of STEPS, 1 START" */
    private static void ofJoinerStepsAndStart() {
        OnboardingWorks x = new OnboardingWorks();
        for (int s = 0; s < 12; s++) {
            meeting(x, 1);
        }
        x.role(0, 4095);
        x.role(1, 1);
        x.role(2, 2048);
        x.join(0, 1);
        x.join(1, 199);
        x.join(2, 2);
        int[][] want = {{4095, 1}, {1, 199}, {2048, 2}};
        x.day();
        x.leave(0);
        for (int j = 0; j < 3; j++) {
            due("promise 15, the STEPS of JOINER " + j, x.ofJoiner(j, STEPS), want[j][0]);
            due("promise 15, the START of JOINER " + j, x.ofJoiner(j, START), want[j][1]);
        }
    }

    /** 15: "2 how many STEPS are DONE, 3 how many are RUNNING" */
    private static void ofJoinerCounts() {
        OnboardingWorks x = new OnboardingWorks();
        meeting(x, 1);
        meeting(x, 1);
        meeting(x, 3);
        meeting(x, 1, 2);
        joins(x, 1, 0, 1, 2, 3);
        int[] done = {0, 0, 2, 2, 3, 4, 4};
        int[] running = {0, 3, 1, 1, 1, 0, 0};
        for (int day = 0; day <= 6; day++) {
            toDay(x, day);
            due("promise 15, DONE on DAY " + day, x.ofJoiner(0, HOW_MANY_DONE), done[day]);
            due("promise 15, RUNNING on DAY " + day, x.ofJoiner(0, HOW_MANY_RUNNING), running[day]);
        }
        x.leave(0);
        for (int left = 3; left >= 0; left--) {
            x.day();
            due("promise 15, TAKEN BACK is not DONE", x.ofJoiner(0, HOW_MANY_DONE), left);
            due("promise 15, TAKEN BACK is not RUNNING", x.ofJoiner(0, HOW_MANY_RUNNING), 0);
        }
    }

    /** 15: "4 the set of RIGHTS that it HAS": these go with the STEPS that are TAKEN BACK. */
    private static void ofJoinerRights() {
        OnboardingWorks x = new OnboardingWorks();
        meeting(x, 1);
        meeting(x, 1, 0);
        joins(x, 1, 0, 1);
        toDay(x, 3);
        due("promise 15, none without RIGHTS", x.ofJoiner(0, RIGHTS), 0);
        for (int steps : new int[] {3, 2, 1, 1, 1, 2}) {
            x.right(steps);
        }
        due("promise 15, all six, told behind what is DONE", x.ofJoiner(0, RIGHTS), 63);
        x.leave(0);
        due("promise 15, all six, as it LEFT", x.ofJoiner(0, RIGHTS), 63);
        x.day();
        due("promise 15, without those of STEP 1", x.ofJoiner(0, RIGHTS), set(2, 3, 4));
        x.day();
        due("promise 15, none", x.ofJoiner(0, RIGHTS), 0);
    }

    /** 15: "5 1 if it has LEFT, otherwise 0" */
    private static void ofJoinerHasLeft() {
        OnboardingWorks x = new OnboardingWorks();
        meeting(x, 1);
        joins(x, 1, 0);
        joins(x, 1, 0);
        due("promise 15, otherwise 0", x.ofJoiner(1, HAS_LEFT), 0);
        x.leave(1);
        due("promise 15, 1 if it has LEFT", x.ofJoiner(1, HAS_LEFT), 1);
        due("promise 15, not the other", x.ofJoiner(0, HAS_LEFT), 0);
        toDay(x, 9);
        due("promise 15, 1 ever after", x.ofJoiner(1, HAS_LEFT), 1);
    }

    /** 15: "6 the greatest EXPECTED end of its STEPS (NONE, if one is not known, or it has LEFT)" */
    private static void ofJoinerLastEnd() {
        OnboardingWorks x = new OnboardingWorks();
        meeting(x, 9);
        meeting(x, 1);
        kit(x, 1, 0);
        joins(x, 2, 0, 1);
        joins(x, 2, 1, 2);
        joins(x, 2, 1);
        due("promise 15, the greatest, of the smallest STEP", x.ofJoiner(0, LAST_END), 10);
        due("promise 15, NONE, as one is not known", x.ofJoiner(1, LAST_END), NONE);
        due("promise 15, of one STEP", x.ofJoiner(2, LAST_END), 2);
        x.order(0, 1, 7);
        due("promise 15, all are known", x.ofJoiner(1, LAST_END), 7);
        toDay(x, 20);
        due("promise 15, all are DONE", x.ofJoiner(0, LAST_END), 10);
        x.leave(0);
        due("promise 15, NONE, as it has LEFT", x.ofJoiner(0, LAST_END), NONE);
    }

    /** 16: "0 STEPS, 1 RIGHTS, 2 ORDERS, 3 SESSIONS, 4 JOINERS, .. 10 the DAY" */
    private static void manyThere() {
        OnboardingWorks x = new OnboardingWorks();
        for (int i = 1; i <= 20; i++) {
            if (i <= 12) {
                course(x, 1);
                due("promise 16, STEPS", x.many(0), i);
            }
            if (i <= 6) {
                x.right(1);
                due("promise 16, RIGHTS", x.many(1), i);
            }
            x.order(0, 1, 199);
            due("promise 16, ORDERS", x.many(2), i);
            x.session(0, 199, 9);
            due("promise 16, SESSIONS", x.many(3), i);
            if (i <= 8) {
                joins(x, 150, 0);
                due("promise 16, JOINERS", x.many(4), i);
            }
            x.day();
            due("promise 16, the DAY", x.many(10), i);
        }
        due("promise 16, twenty of ORDERS and of SESSIONS", x.many(2) + x.many(3), 40);
        due("promise 16, none has LEFT", x.many(5), 0);
    }

    /** 16: "5 those that have LEFT, 6 STEPS of all that are DONE, 7 that are RUNNING, 8 .. RIGHTS .., 9 SEATS" */
    private static void manyOfAll() {
        OnboardingWorks x = new OnboardingWorks();
        course(x, 1);
        meeting(x, 1);
        meeting(x, 9);
        x.right(set(0));
        x.right(set(1));
        x.right(set(0, 1));
        x.session(0, 1, 9);
        x.session(0, 3, 9);
        joins(x, 1, 0, 1, 2);
        joins(x, 1, 0, 1);
        joins(x, 3, 0);
        int[] done = {0, 0, 4, 4, 5};
        int[] running = {0, 5, 1, 2, 1};
        int[] rights = {0, 0, 6, 6, 7};
        for (int day = 0; day <= 4; day++) {
            toDay(x, day);
            due("promise 16, DONE on DAY " + day, x.many(6), done[day]);
            due("promise 16, RUNNING on DAY " + day, x.many(7), running[day]);
            due("promise 16, RIGHTS on DAY " + day, x.many(8), rights[day]);
            due("promise 16, SEATS on DAY " + day, x.many(9), 3);
        }
        x.leave(0);
        x.leave(1);
        due("promise 16, two have LEFT", x.many(5), 2);
        due("promise 16, DONE of one who has LEFT counts", x.many(6), 5);
        due("promise 16, RUNNING of one who has LEFT counts", x.many(7), 1);
        due("promise 16, so do its RIGHTS", x.many(8), 7);
        x.day();
        due("promise 16, TAKEN BACK is not DONE", x.many(6), 4);
        due("promise 16, TAKEN BACK is not RUNNING", x.many(7), 0);
        due("promise 16, RIGHTS go with it", x.many(8), 5);
        due("promise 16, SEATS stay BOOKED", x.many(9), 3);
    }

    /** 17: "0 without any" */
    private static void meanWithoutAny() {
        OnboardingWorks x = new OnboardingWorks();
        Check.dueDouble("promise 17, without a JOINER", x.meanDays(), 0.0);
        meeting(x, 4);
        kit(x, 1, 0);
        joins(x, 1, 0, 1);
        Check.dueDouble("promise 17, without one that is known", x.meanDays(), 0.0);
        joins(x, 1, 0);
        Check.dueDouble("promise 17, with one", x.meanDays(), 3.0);
        x.leave(1);
        Check.dueDouble("promise 17, as that one has LEFT", x.meanDays(), 0.0);
    }

    /** 17: "the mean of the greatest EXPECTED end of a JOINER less its START .. not cut" */
    private static void meanNotCut() {
        OnboardingWorks x = new OnboardingWorks();
        meeting(x, 1);
        meeting(x, 2);
        meeting(x, 9);
        joins(x, 5, 0);
        Check.dueDouble("promise 17, one DAY: nothing", x.meanDays(), 0.0);
        joins(x, 7, 1);
        Check.dueDouble("promise 17, 0 and 1", x.meanDays(), 0.5);
        joins(x, 199, 0);
        Check.dueDouble("promise 17, 0, 1 and 0", x.meanDays(), 1.0 / 3.0);
        joins(x, 1, 0, 1, 2);
        Check.dueDouble("promise 17, 0, 1, 0 and 8", x.meanDays(), 2.25);
        for (int j = 4; j < 7; j++) {
            joins(x, 1, 0);
        }
        Check.dueDouble("promise 17, seven JOINERS", x.meanDays(), 9.0 / 7.0);
        toDay(x, 60);
        Check.dueDouble("promise 17, as they are DONE", x.meanDays(), 9.0 / 7.0);
    }

    /** 17: "of those of which that end is known (so of none that has LEFT)" */
    private static void meanOfThoseKnown() {
        OnboardingWorks x = new OnboardingWorks();
        meeting(x, 2);
        kit(x, 1, 0);
        joins(x, 1, 0);
        joins(x, 3, 0, 1);
        joins(x, 2, 1);
        Check.dueDouble("promise 17, one of three is known", x.meanDays(), 1.0);
        x.order(0, 1, 9);
        Check.dueDouble("promise 17, 1, 6 and 7", x.meanDays(), 14.0 / 3.0);
        x.leave(2);
        Check.dueDouble("promise 17, 1 and 6", x.meanDays(), 3.5);
        x.late(0, 30);
        Check.dueDouble("promise 17, 1 and 36", x.meanDays(), 18.5);
    }
}
