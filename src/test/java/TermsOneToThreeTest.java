/** The section "Terms" up to 3, sentence by sentence: numbers, STEPS, JOINERS, ITEMS. */
public final class TermsOneToThreeTest extends Edge {
    public static void main(String[] args) {
        dayIsZeroTo199();
        noneIsMinusOne();
        setsAreSums();
        twelveSteps();
        kinds();
        lengthsOneToNine();
        needsSmallerNumbers();
        fieldsZeroToSeven();
        itemsZeroToThree();
        rolesZeroToThree();
        sixRights();
        eightJoiners();
        stepsForGood();
        needsOfOthersCountForNothing();
        statesZeroToThree();
        halfAsManyRoundedUp();
        fieldsInOtherFormsThatAreDone();
        fieldsOfOtherKinds();
        fieldsOfOtherJoiners();
        fieldsOfTakenBackForms();
        longAsItBegan();
        runningOnSoManyDays();
        readyIfOpen();
        readyIfAllNeedsAreDone();
        readyIfStartIsTodayOrWas();
        hasRight();
        stockZeroAtFirst();
        twentyOrders();
        ordersComeOnTheirDay();
        kitTakesOneAsItBegins();
        Check.end();
    }

    /** "The DAY is 0 at first, and 199 at most." */
    private static void dayIsZeroTo199() {
        OnboardingWorks x = new OnboardingWorks();
        due("Terms, the DAY is 0 at first", x.many(10), 0);
        x.day();
        due("Terms, then DAY 1", x.many(10), 1);
        toDay(x, 198);
        due("Terms, DAY 199 begins", x.day(), 0);
        due("Terms, the DAY is 199", x.many(10), 199);
        Check.refused(x, Check.STATE, "Terms, the DAY is 199 at most", () -> x.day());
        due("Terms, the DAY is 199 still", x.many(10), 199);
    }

    /** "NONE is -1." */
    private static void noneIsMinusOne() {
        OnboardingWorks x = new OnboardingWorks();
        kit(x, 1, 0);
        x.right(set(0));
        joins(x, 1, 0);
        due("Terms, NONE is -1: the earliest DAY", x.ofItem(0, EARLIEST), -1);
        due("Terms, NONE is -1: the DAY on which it begins", x.ofStep(0, 0, BEGIN), -1);
        due("Terms, NONE is -1: its end", x.ofStep(0, 0, END), -1);
        due("Terms, NONE is -1: the SESSION", x.ofStep(0, 0, BOOKED), -1);
        due("Terms, NONE is -1: the greatest end", x.ofJoiner(0, LAST_END), -1);
        due("Terms, NONE is -1: the DAY of a RIGHT", x.rightOn(0, 0), -1);
        x.leave(0);
        due("Terms, NONE is -1: the next STEP", x.next(0), -1);
    }

    /** "Sets are told as the sum of 2^k for each k in them." */
    private static void setsAreSums() {
        OnboardingWorks x = new OnboardingWorks();
        for (int s = 0; s < 12; s++) {
            meeting(x, 1);
        }
        due("Terms, the empty set is 0", x.role(2, 4095), 0);
        due("Terms, all twelve STEPS are 4095", x.role(2, 2049), 4095);
        x.join(2, 1);
        due("Terms, STEPS 0 and 11 are 2049", x.ofJoiner(0, STEPS), 2049);
        x.right(2048);
        for (int r = 1; r < 5; r++) {
            x.right(2);
        }
        x.right(1);
        due("Terms, no RIGHTS are 0", x.ofJoiner(0, RIGHTS), 0);
        toDay(x, 2);
        due("Terms, RIGHTS 0 and 5 are 33", x.ofJoiner(0, RIGHTS), 33);
    }

    /** "STEPS: at most 12, numbered from 0" */
    private static void twelveSteps() {
        OnboardingWorks x = new OnboardingWorks();
        for (int s = 0; s < 12; s++) {
            due("Terms 1, STEPS are numbered from 0", meeting(x, 1), s);
        }
        Check.refused(x, Check.STATE, "Terms 1, STEPS: at most 12", () -> meeting(x, 1));
        due("Terms 1, twelve STEPS", x.many(0), 12);
        joins(x, 1, 11);
        x.day();
        due("Terms 1, the last STEP begins as others do", x.ofStep(0, 11, STATE), RUNNING);
    }

    /** "each of a KIND: 0 FORM, 1 KIT, 2 COURSE, 3 MEETING" */
    private static void kinds() {
        OnboardingWorks x = new OnboardingWorks();
        for (int kind = 0; kind <= 3; kind++) {
            due("Terms 1, KIND " + kind, x.step(kind, 1, 0, 3), kind);
        }
        for (int kind : new int[] {-1, 4}) {
            Check.refused(x, Check.ARGUMENT, "Terms 1, no KIND " + kind, () -> x.step(kind, 1, 0, 3));
        }
        for (int step : new int[] {0, 1, 3}) {
            Check.refused(x, Check.ARGUMENT, "Terms 1, KIND 2 alone is a COURSE", () -> x.session(step, 1, 1));
        }
        joins(x, 1, 0, 1, 2, 3);
        dueOfSteps("Terms 1, KIND 0 alone is a FORM with FIELDS", x, 0, LONG, 2, 1, 1, 1);
        dueOfSteps("Terms 1, KIND 1 alone is a KIT with an ITEM", x, 0, BEGIN, 1, NONE, 1, 1);
        x.day();
        dueOfSteps("Terms 1, a FORM and a MEETING need nothing", x, 0, STATE, RUNNING, OPEN, OPEN, RUNNING);
    }

    /** "with a LENGTH, 1 to 9 DAYS" */
    private static void lengthsOneToNine() {
        OnboardingWorks x = new OnboardingWorks();
        meeting(x, 1);
        meeting(x, 9);
        Check.refused(x, Check.ARGUMENT, "Terms 1, no LENGTH 0", () -> meeting(x, 0));
        Check.refused(x, Check.ARGUMENT, "Terms 1, no LENGTH 10", () -> meeting(x, 10));
        joins(x, 1, 0, 1);
        dueOfSteps("Terms 1, a LENGTH of 1 and of 9", x, 0, END, 1, 9);
        toDay(x, 2);
        dueOfSteps("Terms 1, a LENGTH of 1 DAY", x, 0, STATE, DONE, RUNNING);
        toDay(x, 9);
        dueOfSteps("Terms 1, the ninth of 9 DAYS", x, 0, STATE, DONE, RUNNING);
        x.day();
        dueOfSteps("Terms 1, behind 9 DAYS", x, 0, STATE, DONE, DONE);
    }

    /** "and a set of STEPS with smaller numbers that it NEEDS" */
    private static void needsSmallerNumbers() {
        OnboardingWorks x = new OnboardingWorks();
        Check.refused(x, Check.ARGUMENT, "Terms 1, STEP 0 cannot NEED itself", () -> meeting(x, 1, 0));
        for (int s = 0; s < 11; s++) {
            due("Terms 1, a STEP that NEEDS none", meeting(x, 1), s);
        }
        Check.refused(x, Check.ARGUMENT, "Terms 1, STEP 11 cannot NEED itself", () -> meeting(x, 1, 11));
        Check.refused(x, Check.ARGUMENT, "Terms 1, nor a greater number", () -> x.step(3, 1, 4096, 0));
        due("Terms 1, STEP 11 NEEDS all smaller ones", x.step(MEETING, 1, 2047, 0), 11);
        x.role(0, 4095);
        x.join(0, 1);
        dueOfSteps("Terms 1, behind all that it NEEDS", x, 0, BEGIN, 1, 1, 1, 1, 1, 1, 1, 1, 1, 1, 1, 2);
    }

    /** "a FORM with a set of FIELDS (0 to 7)" */
    private static void fieldsZeroToSeven() {
        OnboardingWorks x = new OnboardingWorks();
        x.step(FORM, 1, 0, 0);
        x.step(FORM, 1, 0, 1);
        x.step(FORM, 1, 0, 128);
        x.step(FORM, 1, 0, 255);
        Check.refused(x, Check.ARGUMENT, "Terms 1, no FIELD 8", () -> x.step(FORM, 1, 0, 256));
        Check.refused(x, Check.ARGUMENT, "Terms 1, no set of FIELDS", () -> x.step(FORM, 1, 0, -1));
        joins(x, 1, 0, 1, 2, 3);
        dueOfSteps("Terms 1, no FIELDS, FIELD 0, FIELD 7, all eight", x, 0, LONG, 1, 2, 2, 5);
    }

    /** "a KIT with an ITEM (0 to 3)" */
    private static void itemsZeroToThree() {
        OnboardingWorks x = new OnboardingWorks();
        for (int item = 0; item <= 3; item++) {
            due("Terms 1, a KIT with ITEM " + item, kit(x, 1, item), item);
        }
        Check.refused(x, Check.ARGUMENT, "Terms 1, no ITEM -1", () -> kit(x, 1, -1));
        Check.refused(x, Check.ARGUMENT, "Terms 1, no ITEM 4", () -> kit(x, 1, 4));
        joins(x, 1, 0, 1, 2, 3);
        x.stock(0, 1);
        x.stock(3, 1);
        dueOfSteps("Terms 1, each KIT with its own ITEM", x, 0, BEGIN, 1, NONE, NONE, 1);
        x.day();
        dueOfSteps("Terms 1, so it begins", x, 0, STATE, RUNNING, OPEN, OPEN, RUNNING);
    }

    /** "ROLES are 0 to 3, each a set of STEPS (none at first)." */
    private static void rolesZeroToThree() {
        OnboardingWorks x = new OnboardingWorks();
        meeting(x, 1);
        for (int role : new int[] {-1, 4}) {
            Check.refused(x, Check.INDEX, "Terms 1, no ROLE " + role, () -> x.role(role, 1));
            Check.refused(x, Check.INDEX, "Terms 1, no ROLE " + role, () -> x.join(role, 1));
        }
        for (int role = 0; role <= 3; role++) {
            int with = role;
            Check.refused(x, Check.STATE, "Terms 1, a ROLE has none at first", () -> x.join(with, 1));
            due("Terms 1, a ROLE has none at first", x.role(role, 1), 0);
            due("Terms 1, one joins with ROLE " + role, x.join(role, 1), role);
        }
    }

    /** "RIGHTS: at most 6, numbered from 0, each a set of STEPS, at least one." */
    private static void sixRights() {
        OnboardingWorks x = new OnboardingWorks();
        meeting(x, 1);
        meeting(x, 2);
        Check.refused(x, Check.ARGUMENT, "Terms 1, a RIGHT has at least one STEP", () -> x.right(0));
        for (int r = 0; r < 6; r++) {
            due("Terms 1, RIGHTS are numbered from 0", x.right(r == 5 ? 2 : 1), r);
        }
        Check.refused(x, Check.STATE, "Terms 1, RIGHTS: at most 6", () -> x.right(1));
        due("Terms 1, six RIGHTS", x.many(1), 6);
        joins(x, 1, 0, 1);
        due("Terms 1, RIGHT 5 is told as others are", x.rightOn(0, 5), 3);
    }

    /** "JOINERS: at most 8, numbered from 0" */
    private static void eightJoiners() {
        OnboardingWorks x = new OnboardingWorks();
        meeting(x, 1);
        for (int j = 0; j < 8; j++) {
            due("Terms 2, JOINERS are numbered from 0", joins(x, 1, 0), j);
        }
        Check.refused(x, Check.STATE, "Terms 2, JOINERS: at most 8", () -> x.join(0, 1));
        due("Terms 2, eight JOINERS", x.many(4), 8);
        x.day();
        due("Terms 2, all eight begin", x.many(7), 8);
        due("Terms 2, the last one, too", x.ofJoiner(7, HOW_MANY_RUNNING), 1);
    }

    /** "each with the STEPS that its ROLE has as it joins, for good, and a START" */
    private static void stepsForGood() {
        OnboardingWorks x = new OnboardingWorks();
        meeting(x, 1);
        meeting(x, 1);
        joins(x, 1, 0);
        joins(x, 2, 0, 1);
        x.role(0, 0);
        due("Terms 2, its STEPS stay as the ROLE gets more", x.ofJoiner(0, STEPS), 1);
        due("Terms 2, its STEPS stay as the ROLE gets none", x.ofJoiner(1, STEPS), 3);
        due("Terms 2, its START", x.ofJoiner(0, START), 1);
        due("Terms 2, another's START", x.ofJoiner(1, START), 2);
        toDay(x, 2);
        due("Terms 2, its STEPS go on", x.many(7), 2);
        Check.refused(x, Check.INDEX, "Terms 2, no STEP of it", () -> x.ofStep(0, 1, STATE));
    }

    /** "What a STEP NEEDS that is no STEP of that JOINER counts for nothing." */
    private static void needsOfOthersCountForNothing() {
        OnboardingWorks x = new OnboardingWorks();
        kit(x, 1, 0);
        meeting(x, 1, 0);
        meeting(x, 1, 1);
        joins(x, 1, 1, 2);
        joins(x, 1, 0, 2);
        due("Terms 2, EXPECTED without the KIT of others", x.ofStep(0, 1, BEGIN), 1);
        due("Terms 2, EXPECTED behind its own", x.ofStep(0, 2, BEGIN), 2);
        due("Terms 2, EXPECTED over a STEP of others", x.ofStep(1, 2, BEGIN), 1);
        due("Terms 2, next without the KIT of others", x.next(0), 1);
        due("Terms 2, nothing waits over a STEP of others", x.waitFor(1, 0), 0);
        x.day();
        due("Terms 2, it is READY", x.ofStep(0, 1, STATE), RUNNING);
        due("Terms 2, and so is this", x.ofStep(1, 2, STATE), RUNNING);
        due("Terms 2, but not what NEEDS a STEP of it", x.ofStep(0, 2, STATE), OPEN);
    }

    /** "For each of these STEPS it is OPEN (0), RUNNING (1), DONE (2), or TAKEN BACK (3). A JOINER can LEAVE." */
    private static void statesZeroToThree() {
        OnboardingWorks x = new OnboardingWorks();
        meeting(x, 1);
        joins(x, 2, 0);
        due("Terms 2, OPEN is 0", x.ofStep(0, 0, STATE), 0);
        x.day();
        due("Terms 2, OPEN ahead of START", x.ofStep(0, 0, STATE), 0);
        x.day();
        due("Terms 2, RUNNING is 1", x.ofStep(0, 0, STATE), 1);
        x.day();
        due("Terms 2, DONE is 2", x.ofStep(0, 0, STATE), 2);
        x.leave(0);
        due("Terms 2, DONE as it LEAVES", x.ofStep(0, 0, STATE), 2);
        x.day();
        due("Terms 2, TAKEN BACK is 3", x.ofStep(0, 0, STATE), 3);
        toDay(x, 199);
        due("Terms 2, TAKEN BACK it stays", x.ofStep(0, 0, STATE), 3);
    }

    /** "its LENGTH; of a FORM half as many more, rounded up, as it has FIELDS" */
    private static void halfAsManyRoundedUp() {
        OnboardingWorks x = new OnboardingWorks();
        for (int fields = 0; fields <= 8; fields++) {
            form(x, 3, (1 << fields) - 1);
        }
        form(x, 9, 255);
        joins(x, 1, 0, 1, 2, 3, 4, 5, 6, 7, 8, 9);
        dueOfSteps("Terms 2, 0 to 8 FIELDS", x, 0, LONG, 3, 4, 4, 5, 5, 6, 6, 7, 7, 13);
        x.day();
        dueOfSteps("Terms 2, as it begins", x, 0, END, 3, 4, 4, 5, 5, 6, 6, 7, 7, 13);
    }

    /** "as it has FIELDS that are in no other FORM that is DONE by that JOINER" */
    private static void fieldsInOtherFormsThatAreDone() {
        OnboardingWorks x = new OnboardingWorks();
        form(x, 1, 15);
        form(x, 1, 60, 0);
        form(x, 1, 15, 0);
        form(x, 1, 255, 0, 1);
        joins(x, 1, 0, 1, 2, 3);
        dueOfSteps("Terms 2, OPEN FORMS take off nothing", x, 0, LONG, 3, 3, 3, 5);
        toDay(x, 3);
        dueOfSteps("Terms 2, RUNNING FORMS take off nothing", x, 0, LONG, 3, 3, 3, 5);
        x.day();
        dueOfSteps("Terms 2, some, all and four of eight FIELDS are DONE", x, 0, LONG, 3, 2, 1, 3);
        dueOfSteps("Terms 2, so two of them begin", x, 0, END, 3, 5, 4, 8);
        toDay(x, 6);
        dueOfSteps("Terms 2, two DONE FORMS take off six FIELDS", x, 0, LONG, 3, 2, 1, 2);
        toDay(x, 8);
        dueOfSteps("Terms 2, no FORM takes off its own FIELDS", x, 0, LONG, 3, 2, 1, 2);
    }

    /** "in no other FORM": what a KIT, a COURSE or a MEETING was told for `of` is no set of FIELDS. */
    private static void fieldsOfOtherKinds() {
        OnboardingWorks x = new OnboardingWorks();
        x.step(KIT, 1, 0, 3);
        x.step(COURSE, 1, 0, 255);
        x.step(MEETING, 1, 0, 255);
        form(x, 1, 255, 0, 1, 2);
        x.stock(3, 1);
        x.session(1, 1, 1);
        joins(x, 1, 0, 1, 2, 3);
        toDay(x, 2);
        dueOfSteps("Terms 2, all the others are DONE", x, 0, STATE, DONE, DONE, DONE, RUNNING);
        due("Terms 2, a FORM alone takes off FIELDS", x.ofStep(0, 3, LONG), 5);
    }

    /** "that is DONE by that JOINER" */
    private static void fieldsOfOtherJoiners() {
        OnboardingWorks x = new OnboardingWorks();
        form(x, 1, 3);
        form(x, 1, 3, 0);
        joins(x, 1, 0, 1);
        joins(x, 9, 0, 1);
        joins(x, 9, 1);
        toDay(x, 3);
        due("Terms 2, DONE by that JOINER", x.ofStep(0, 1, LONG), 1);
        due("Terms 2, DONE by another one alone", x.ofStep(1, 1, LONG), 2);
        due("Terms 2, no STEP of that JOINER", x.ofStep(2, 1, LONG), 2);
    }

    /** "that is DONE": one that is TAKEN BACK is not. */
    private static void fieldsOfTakenBackForms() {
        OnboardingWorks x = new OnboardingWorks();
        form(x, 1, 15);
        kit(x, 1, 0);
        form(x, 2, 15, 1);
        joins(x, 1, 0, 1, 2);
        toDay(x, 4);
        due("Terms 2, it would be as long as LENGTH now", x.ofStep(0, 2, LONG), 2);
        x.leave(0);
        due("Terms 2, as it LEFT the FORM is DONE still", x.ofStep(0, 2, LONG), 2);
        x.day();
        due("Terms 2, the FORM is TAKEN BACK", x.ofStep(0, 0, STATE), TAKEN_BACK);
        due("Terms 2, its FIELDS count again", x.ofStep(0, 2, LONG), 4);
        due("Terms 2, it was as long as it was", x.ofStep(0, 0, LONG), 3);
    }

    /** "How long a STEP is, as it begins": it stays so. */
    private static void longAsItBegan() {
        OnboardingWorks x = new OnboardingWorks();
        form(x, 1, 3);
        form(x, 3, 3);
        joins(x, 1, 0, 1);
        toDay(x, 3);
        dueOfSteps("Terms 2, the other FORM is DONE", x, 0, STATE, DONE, RUNNING);
        dueOfSteps("Terms 2, as long as it began", x, 0, LONG, 2, 4);
        dueOfSteps("Terms 2, with the end as it began", x, 0, END, 2, 4);
        x.day();
        due("Terms 2, RUNNING on its fourth DAY", x.ofStep(0, 1, STATE), RUNNING);
        x.day();
        due("Terms 2, DONE behind it", x.ofStep(0, 1, STATE), DONE);
    }

    /** "It is RUNNING on so many DAYS .. as the DAY behind the last one begins, it is DONE." */
    private static void runningOnSoManyDays() {
        OnboardingWorks x = new OnboardingWorks();
        meeting(x, 1);
        meeting(x, 2);
        form(x, 9, 255);
        joins(x, 1, 0, 1, 2);
        due("Terms 2, DONE by DAY 1", x.day(), 0);
        dueOfSteps("Terms 2, the DAY on which it begins is the first", x, 0, STATE, RUNNING, RUNNING, RUNNING);
        due("Terms 2, DONE by DAY 2", x.day(), 1);
        dueOfSteps("Terms 2, one DAY", x, 0, STATE, DONE, RUNNING, RUNNING);
        due("Terms 2, DONE by DAY 3", x.day(), 1);
        dueOfSteps("Terms 2, two DAYS", x, 0, STATE, DONE, DONE, RUNNING);
        toDay(x, 13);
        dueOfSteps("Terms 2, the last of 13 DAYS", x, 0, STATE, DONE, DONE, RUNNING);
        due("Terms 2, DONE by DAY 14", x.day(), 1);
        dueOfSteps("Terms 2, behind 13 DAYS", x, 0, STATE, DONE, DONE, DONE);
    }

    /** "A STEP is READY, if it is OPEN" */
    private static void readyIfOpen() {
        OnboardingWorks x = new OnboardingWorks();
        kit(x, 1, 0);
        joins(x, 1, 0);
        x.day();
        due("Terms 2, READY as it is OPEN", x.ofItem(0, WAITING), 1);
        x.stock(0, 2);
        x.day();
        due("Terms 2, not READY as it is RUNNING", x.ofItem(0, WAITING), 0);
        x.day();
        due("Terms 2, not READY as it is DONE", x.ofItem(0, WAITING), 0);
        x.day();
        due("Terms 2, so it begins once", x.ofItem(0, STOCK), 1);
    }

    /** "all that it NEEDS is DONE" */
    private static void readyIfAllNeedsAreDone() {
        OnboardingWorks x = new OnboardingWorks();
        meeting(x, 1);
        meeting(x, 2);
        kit(x, 1, 0, 0, 1);
        joins(x, 1, 0, 1, 2);
        x.day();
        due("Terms 2, both are RUNNING", x.ofItem(0, WAITING), 0);
        x.day();
        due("Terms 2, one is DONE, one is RUNNING", x.ofItem(0, WAITING), 0);
        x.day();
        due("Terms 2, both are DONE", x.ofItem(0, WAITING), 1);
    }

    /** "and START is today, or was" */
    private static void readyIfStartIsTodayOrWas() {
        OnboardingWorks x = new OnboardingWorks();
        kit(x, 1, 0);
        joins(x, 3, 0);
        toDay(x, 2);
        due("Terms 2, START is tomorrow", x.ofItem(0, WAITING), 0);
        x.day();
        due("Terms 2, START is today", x.ofItem(0, WAITING), 1);
        x.day();
        due("Terms 2, START was", x.ofItem(0, WAITING), 1);
    }

    /** "A JOINER HAS a RIGHT, if all its STEPS are STEPS of that JOINER, and DONE." */
    private static void hasRight() {
        OnboardingWorks x = new OnboardingWorks();
        meeting(x, 1);
        meeting(x, 2);
        meeting(x, 1);
        x.right(set(0));
        x.right(set(0, 1));
        x.right(set(0, 2));
        x.right(set(2));
        joins(x, 1, 0, 1);
        x.day();
        due("Terms 2, none while all is RUNNING", x.ofJoiner(0, RIGHTS), 0);
        x.day();
        due("Terms 2, a RIGHT of one STEP", x.ofJoiner(0, RIGHTS), set(0));
        x.day();
        due("Terms 2, none with a STEP of others", x.ofJoiner(0, RIGHTS), set(0, 1));
    }

    /** "ITEMS have a STOCK (0 at first)." */
    private static void stockZeroAtFirst() {
        OnboardingWorks x = new OnboardingWorks();
        for (int item = 0; item <= 3; item++) {
            due("Terms 3, STOCK is 0 at first", x.ofItem(item, STOCK), 0);
        }
        for (int item = 0; item <= 3; item++) {
            due("Terms 3, each ITEM has its own STOCK", x.stock(item, item + 1), item + 1);
        }
    }

    /** "ORDERS: at most 20, numbered from 0" */
    private static void twentyOrders() {
        OnboardingWorks x = new OnboardingWorks();
        for (int o = 0; o < 20; o++) {
            due("Terms 3, ORDERS are numbered from 0", x.order(o == 19 ? 3 : 0, 1, 2), o);
        }
        Check.refused(x, Check.STATE, "Terms 3, ORDERS: at most 20", () -> x.order(0, 1, 2));
        due("Terms 3, twenty ORDERS", x.many(2), 20);
        due("Terms 3, nineteen of one ITEM", x.ofItem(0, TO_COME), 19);
        due("Terms 3, the last one can be late, too", x.late(19, 1), 3);
        toDay(x, 2);
        due("Terms 3, nineteen came", x.ofItem(0, STOCK), 19);
        Check.refused(x, Check.STATE, "Terms 3, those that came count, too", () -> x.order(0, 1, 3));
        x.day();
        due("Terms 3, the last one came", x.ofItem(3, STOCK), 1);
    }

    /** "each of so many of an ITEM, that COMES on a DAY" */
    private static void ordersComeOnTheirDay() {
        OnboardingWorks x = new OnboardingWorks();
        x.order(0, 20, 1);
        x.order(3, 1, 199);
        due("Terms 3, ahead of its DAY", x.ofItem(0, STOCK), 0);
        x.day();
        due("Terms 3, it COMES on the first DAY", x.ofItem(0, STOCK), 20);
        toDay(x, 198);
        due("Terms 3, it came once", x.ofItem(0, STOCK), 20);
        due("Terms 3, the other one is still to COME", x.ofItem(3, STOCK), 0);
        x.day();
        due("Terms 3, it COMES on the last DAY", x.ofItem(3, STOCK), 1);
    }

    /** "A KIT takes one of its ITEM from the STOCK as it begins." */
    private static void kitTakesOneAsItBegins() {
        OnboardingWorks x = new OnboardingWorks();
        kit(x, 2, 1);
        for (int item = 0; item <= 3; item++) {
            x.stock(item, 2);
        }
        joins(x, 2, 0);
        x.day();
        due("Terms 3, nothing is taken ahead of that", x.ofItem(1, STOCK), 2);
        x.day();
        due("Terms 3, one is taken as it begins", x.ofItem(1, STOCK), 1);
        toDay(x, 5);
        due("Terms 3, one alone, and for good", x.ofItem(1, STOCK), 1);
        for (int item : new int[] {0, 2, 3}) {
            due("Terms 3, none of another ITEM", x.ofItem(item, STOCK), 2);
        }
    }
}
