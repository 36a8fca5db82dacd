/** The section "Terms", 6, sentence by sentence: what is EXPECTED. */
public final class TermsSixTest extends Edge {
    public static void main(String[] args) {
        onTheDayItBegan();
        tomorrow();
        tomorrowOnTheLastDay();
        start();
        behindWhatItNeeds();
        dayOfTheSession();
        withoutASession();
        earliestOrder();
        ordersStillToCome();
        withStock();
        ordersOfThatItem();
        orderAboveTheLastDay();
        greatestOfThem();
        notKnownAndSoOn();
        endWithTheLengthAsItIsNow();
        endOfOneThatBegan();
        Check.end();
    }

    /** "if it began, on that DAY" */
    private static void onTheDayItBegan() {
        OnboardingWorks x = new OnboardingWorks();
        meeting(x, 2);
        joins(x, 2, 0);
        for (int day = 0; day <= 6; day++) {
            toDay(x, day);
            due("Terms 6, DAY 2, OPEN, RUNNING or DONE, on DAY " + day, x.ofStep(0, 0, BEGIN), 2);
        }
    }

    /** "otherwise the greatest of: tomorrow" */
    private static void tomorrow() {
        OnboardingWorks x = new OnboardingWorks();
        course(x, 1);
        joins(x, 1, 0);
        due("Terms 6, tomorrow is DAY 1 at first", x.ofStep(0, 0, BEGIN), 1);
        for (int day = 1; day <= 5; day++) {
            x.day();
            due("Terms 6, tomorrow, as it did not begin on DAY " + day, x.ofStep(0, 0, BEGIN), day + 1);
        }
    }

    /** Tomorrow is that of DAY 199, too. */
    private static void tomorrowOnTheLastDay() {
        OnboardingWorks x = new OnboardingWorks();
        course(x, 9);
        joins(x, 199, 0);
        toDay(x, 198);
        due("Terms 6, on DAY 198", x.ofStep(0, 0, BEGIN), 199);
        x.day();
        due("Terms 6, on DAY 199", x.ofStep(0, 0, BEGIN), 200);
        due("Terms 6, its end then", x.ofStep(0, 0, END), 208);
    }

    /** "START" */
    private static void start() {
        OnboardingWorks x = new OnboardingWorks();
        meeting(x, 1);
        joins(x, 3, 0);
        joins(x, 199, 0);
        for (int day = 0; day <= 2; day++) {
            toDay(x, day);
            due("Terms 6, START, tomorrow at the latest, on DAY " + day, x.ofStep(0, 0, BEGIN), 3);
        }
        due("Terms 6, START on DAY 199", x.ofStep(1, 0, BEGIN), 199);
    }

    /** "for each STEP that it NEEDS, the DAY behind its EXPECTED end" */
    private static void behindWhatItNeeds() {
        OnboardingWorks x = new OnboardingWorks();
        meeting(x, 5);
        meeting(x, 2);
        meeting(x, 1, 0, 1);
        meeting(x, 1, 1);
        meeting(x, 1, 2, 3);
        joins(x, 1, 0, 1, 2, 3, 4);
        dueOfSteps("Terms 6, the greatest of what it NEEDS", x, 0, BEGIN, 1, 1, 6, 3, 7);
        toDay(x, 3);
        dueOfSteps("Terms 6, the same with one DONE, one RUNNING", x, 0, BEGIN, 1, 1, 6, 3, 7);
        joins(x, 4, 2, 4);
        due("Terms 6, only what is a STEP of it", x.ofStep(1, 2, BEGIN), 4);
        due("Terms 6, and what NEEDS that", x.ofStep(1, 4, BEGIN), 5);
    }

    /** "for a COURSE with a SESSION that is BOOKED, its DAY" */
    private static void dayOfTheSession() {
        OnboardingWorks x = new OnboardingWorks();
        course(x, 2);
        meeting(x, 1, 0);
        x.session(0, 9, 1);
        joins(x, 1, 0, 1);
        dueOfSteps("Terms 6, the DAY of the SESSION", x, 0, BEGIN, 9, 11);
        dueOfSteps("Terms 6, the ends with it", x, 0, END, 10, 11);
        toDay(x, 8);
        dueOfSteps("Terms 6, up to the DAY ahead of it", x, 0, BEGIN, 9, 11);
    }

    /** A COURSE without a SESSION that is BOOKED is EXPECTED as others are. */
    private static void withoutASession() {
        OnboardingWorks x = new OnboardingWorks();
        course(x, 2);
        meeting(x, 1, 0);
        joins(x, 3, 0, 1);
        dueOfSteps("Terms 6, a COURSE without a SESSION", x, 0, BEGIN, 3, 5);
        x.session(0, 2, 1);
        dueOfSteps("Terms 6, one that it did not BOOK", x, 0, BEGIN, 3, 5);
    }

    /** "for a KIT without STOCK, the earliest DAY of an ORDER of its ITEM" */
    private static void earliestOrder() {
        OnboardingWorks x = new OnboardingWorks();
        kit(x, 1, 0);
        joins(x, 1, 0);
        x.order(0, 1, 9);
        due("Terms 6, the only ORDER", x.ofStep(0, 0, BEGIN), 9);
        x.order(0, 1, 7);
        x.order(0, 1, 8);
        due("Terms 6, the earliest ORDER", x.ofStep(0, 0, BEGIN), 7);
        x.late(1, 1);
        due("Terms 6, two that are equally early", x.ofStep(0, 0, BEGIN), 8);
        x.late(1, 30);
        x.late(2, 30);
        due("Terms 6, the first one, as the others are late", x.ofStep(0, 0, BEGIN), 9);
        x.order(0, 1, 1);
        due("Terms 6, an ORDER for tomorrow", x.ofStep(0, 0, BEGIN), 1);
    }

    /** "that is still to COME" */
    private static void ordersStillToCome() {
        OnboardingWorks x = new OnboardingWorks();
        kit(x, 1, 0);
        joins(x, 1, 0);
        joins(x, 1, 0);
        x.order(0, 1, 2);
        x.order(0, 1, 5);
        due("Terms 6, the same for each JOINER", x.ofStep(1, 0, BEGIN), 2);
        x.day();
        due("Terms 6, it COMES tomorrow", x.ofStep(1, 0, BEGIN), 2);
        x.day();
        due("Terms 6, one came today", x.ofStep(0, 0, STATE), RUNNING);
        due("Terms 6, the next one is still to COME", x.ofStep(1, 0, BEGIN), 5);
        x.late(1, 1);
        toDay(x, 5);
        due("Terms 6, it is late", x.ofStep(1, 0, BEGIN), 6);
    }

    /** "for a KIT without STOCK": with STOCK no ORDER counts. */
    private static void withStock() {
        OnboardingWorks x = new OnboardingWorks();
        kit(x, 1, 0);
        joins(x, 1, 0);
        joins(x, 2, 0);
        x.order(0, 1, 9);
        due("Terms 6, without STOCK", x.ofStep(0, 0, BEGIN), 9);
        x.stock(0, 1);
        due("Terms 6, with STOCK 1", x.ofStep(0, 0, BEGIN), 1);
        due("Terms 6, for another JOINER, too", x.ofStep(1, 0, BEGIN), 2);
        x.day();
        due("Terms 6, the STOCK is taken", x.ofStep(1, 0, BEGIN), 9);
    }

    /** "an ORDER of its ITEM" */
    private static void ordersOfThatItem() {
        OnboardingWorks x = new OnboardingWorks();
        kit(x, 1, 0);
        kit(x, 1, 3);
        meeting(x, 1);
        joins(x, 1, 0, 1, 2);
        x.order(1, 1, 4);
        dueOfSteps("Terms 6, an ORDER of neither", x, 0, BEGIN, NONE, NONE, 1);
        x.order(3, 1, 5);
        dueOfSteps("Terms 6, an ORDER of ITEM 3", x, 0, BEGIN, NONE, 5, 1);
        x.stock(2, 1);
        x.order(0, 1, 6);
        dueOfSteps("Terms 6, an ORDER of ITEM 0", x, 0, BEGIN, 6, 5, 1);
        x.stock(3, 1);
        dueOfSteps("Terms 6, STOCK of ITEM 3", x, 0, BEGIN, 6, 1, 1);
    }

    /** An ORDER that COMES above DAY 199 is still to COME. */
    private static void orderAboveTheLastDay() {
        OnboardingWorks x = new OnboardingWorks();
        kit(x, 2, 0);
        meeting(x, 1, 0);
        joins(x, 1, 0, 1);
        x.order(0, 1, 199);
        dueOfSteps("Terms 6, DAY 199", x, 0, BEGIN, 199, 201);
        x.late(0, 30);
        dueOfSteps("Terms 6, DAY 229", x, 0, BEGIN, 229, 231);
        toDay(x, 199);
        dueOfSteps("Terms 6, DAY 229, on the last DAY", x, 0, END, 230, 231);
    }

    /** "the greatest of" all these together. */
    private static void greatestOfThem() {
        OnboardingWorks x = new OnboardingWorks();
        meeting(x, 3);
        kit(x, 1, 0, 0);
        x.order(0, 1, 4);
        joins(x, 1, 0, 1);
        joins(x, 2, 0, 1);
        joins(x, 9, 1);
        due("Terms 6, ORDER and NEED alike", x.ofStep(0, 1, BEGIN), 4);
        due("Terms 6, the NEED is the greatest", x.ofStep(1, 1, BEGIN), 5);
        due("Terms 6, START is the greatest", x.ofStep(2, 1, BEGIN), 9);
        x.late(0, 2);
        due("Terms 6, the ORDER is the greatest", x.ofStep(1, 1, BEGIN), 6);
    }

    /** "(without one it is not known, nor is what NEEDS it, and so on)" */
    private static void notKnownAndSoOn() {
        OnboardingWorks x = new OnboardingWorks();
        kit(x, 1, 0);
        meeting(x, 1);
        meeting(x, 1, 0, 1);
        course(x, 1, 2);
        form(x, 1, 1, 1);
        joins(x, 1, 0, 1, 2, 3, 4);
        dueOfSteps("Terms 6, not known, and so on", x, 0, BEGIN, NONE, 1, NONE, NONE, 2);
        dueOfSteps("Terms 6, nor are the ends", x, 0, END, NONE, 1, NONE, NONE, 3);
        x.order(0, 1, 5);
        dueOfSteps("Terms 6, all is known", x, 0, BEGIN, 5, 1, 6, 7, 2);
        joins(x, 1, 2, 3);
        due("Terms 6, known without that KIT", x.ofStep(1, 3, BEGIN), 2);
    }

    /** "Its EXPECTED end is the DAY on which it begins so, and how long it is (as it is now), less 1" */
    private static void endWithTheLengthAsItIsNow() {
        OnboardingWorks x = new OnboardingWorks();
        form(x, 1, 3);
        form(x, 1, 3, 0);
        meeting(x, 1, 1);
        joins(x, 1, 0, 1, 2);
        dueOfSteps("Terms 6, as long as it is now, with all FIELDS", x, 0, END, 2, 4, 5);
        dueOfSteps("Terms 6, one DAY: its end is that DAY", x, 0, BEGIN, 1, 3, 5);
        toDay(x, 2);
        dueOfSteps("Terms 6, not as long as it will be", x, 0, END, 2, 4, 5);
        x.day();
        dueOfSteps("Terms 6, now without those FIELDS", x, 0, END, 2, 3, 4);
    }

    /** "that of one that began is as it is" */
    private static void endOfOneThatBegan() {
        OnboardingWorks x = new OnboardingWorks();
        form(x, 1, 3);
        form(x, 5, 3);
        joins(x, 1, 0, 1);
        for (int day = 1; day <= 9; day++) {
            toDay(x, day);
            dueOfSteps("Terms 6, the ends on DAY " + day, x, 0, END, 2, 6);
        }
    }
}
