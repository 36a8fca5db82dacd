import java.math.BigInteger;
import java.util.function.Supplier;

/** Promises 18 to 22: what the calls return, at the edges; RefusalsTest has what they refuse. */
public final class AnswersEighteenTo22Test extends Edge {
    public static void main(String[] args) {
        rightOnBehindTheGreatestEnd();
        rightOnNone();
        rightOnAboveTheLastDay();
        shiftByDays();
        shiftByWithOtherOrders();
        shiftByAddsUp();
        shiftByOfThoseKnown();
        shiftByWithWhatIsBooked();
        shiftByChangesNothing();
        nextSmallestNumber();
        nextAllThatItNeeds();
        nextNone();
        waitForAtOnceOrOverOthers();
        waitForOfThatJoiner();
        waitForNotDone();
        waitForTakenBack();
        digestOfANewOffice();
        digestWrapsAround();
        digestOrder();
        askingChangesNothing();
        askingBooksNothing();
        upToThe512thCall();
        Check.end();
    }

    /** 18: "the one behind the greatest EXPECTED end of its STEPS" */
    private static void rightOnBehindTheGreatestEnd() {
        OnboardingWorks x = new OnboardingWorks();
        meeting(x, 9);
        meeting(x, 1);
        meeting(x, 1, 1);
        x.right(set(1));
        x.right(set(0, 1));
        x.right(set(0, 1, 2));
        x.right(set(2));
        joins(x, 2, 0, 1, 2);
        int[] want = {3, 11, 11, 4};
        for (int day = 0; day <= 12; day += 4) {
            toDay(x, day);
            for (int right = 0; right < 4; right++) {
                due("promise 18, the DAY behind, on DAY " + day, x.rightOn(0, right), want[right]);
            }
        }
        due("promise 18, it HAS them all", x.ofJoiner(0, RIGHTS), 15);
    }

    /** 18: "NONE, if that is not known, one of them is no STEP of it, or it has LEFT" */
    private static void rightOnNone() {
        OnboardingWorks x = new OnboardingWorks();
        meeting(x, 1);
        kit(x, 1, 0);
        meeting(x, 1, 1);
        meeting(x, 1);
        x.right(set(0));
        x.right(set(0, 1));
        x.right(set(2));
        x.right(set(0, 3));
        x.right(set(3));
        joins(x, 1, 0, 1, 2);
        due("promise 18, known", x.rightOn(0, 0), 2);
        for (int right = 1; right <= 4; right++) {
            due("promise 18, NONE for RIGHT " + right, x.rightOn(0, right), NONE);
        }
        x.order(0, 1, 3);
        due("promise 18, now it is known", x.rightOn(0, 1), 4);
        due("promise 18, and what NEEDS that", x.rightOn(0, 2), 5);
        due("promise 18, a STEP of others is none still", x.rightOn(0, 3), NONE);
        toDay(x, 9);
        due("promise 18, one that it HAS", x.rightOn(0, 0), 2);
        x.leave(0);
        due("promise 18, NONE, as it has LEFT", x.rightOn(0, 0), NONE);
        due("promise 18, though it HAS that RIGHT still", x.ofJoiner(0, RIGHTS) & 1, 1);
    }

    /** 18: the DAY can be above 199, as an end can. */
    private static void rightOnAboveTheLastDay() {
        OnboardingWorks x = new OnboardingWorks();
        meeting(x, 9);
        x.right(set(0));
        joins(x, 199, 0);
        due("promise 18, behind DAY 207", x.rightOn(0, 0), 208);
        toDay(x, 199);
        due("promise 18, the same as it is RUNNING", x.rightOn(0, 0), 208);
    }

    /** 19: "how many DAYS later it would COME. Returns by how many DAYS .. ends .. would be later" */
    private static void shiftByDays() {
        OnboardingWorks x = new OnboardingWorks();
        kit(x, 1, 0);
        meeting(x, 6);
        joins(x, 1, 0, 1);
        x.order(0, 1, 4);
        int[] days = {1, 2, 3, 29, 30};
        int[] later = {0, 0, 1, 27, 28};
        for (int i = 0; i < days.length; i++) {
            due("promise 19, " + days[i] + " DAYS later", x.shiftBy(0, days[i]), later[i]);
        }
        x.late(0, 2);
        due("promise 19, from the end of the MEETING on", x.shiftBy(0, 1), 1);
        x.late(0, 30);
        due("promise 19, from there on each DAY", x.shiftBy(0, 30), 30);
    }

    /** 19: with another ORDER, or with STOCK, it is less. */
    private static void shiftByWithOtherOrders() {
        OnboardingWorks x = new OnboardingWorks();
        kit(x, 1, 0);
        joins(x, 1, 0);
        x.order(0, 1, 4);
        x.order(1, 1, 5);
        due("promise 19, an ORDER of another ITEM does not help", x.shiftBy(0, 30), 30);
        due("promise 19, nor does that one matter", x.shiftBy(1, 30), 0);
        x.order(0, 1, 9);
        due("promise 19, up to the other ORDER", x.shiftBy(0, 4), 4);
        due("promise 19, on the DAY of the other", x.shiftBy(0, 5), 5);
        due("promise 19, behind it no more", x.shiftBy(0, 6), 5);
        due("promise 19, the later one is not waited for", x.shiftBy(2, 30), 0);
        x.order(0, 1, 4);
        due("promise 19, one that is equally early", x.shiftBy(0, 30), 0);
        x.stock(0, 1);
        due("promise 19, with STOCK", x.shiftBy(0, 30), 0);
    }

    /** 19: "of all JOINERS together" */
    private static void shiftByAddsUp() {
        OnboardingWorks x = new OnboardingWorks();
        kit(x, 1, 0);
        x.order(0, 9, 2);
        due("promise 19, without a JOINER", x.shiftBy(0, 30), 0);
        for (int j = 1; j <= 8; j++) {
            joins(x, 1, 0);
            due("promise 19, of " + j + " together", x.shiftBy(0, 30), 30 * j);
        }
    }

    /** 19: "(of which they are known, now and then)" */
    private static void shiftByOfThoseKnown() {
        OnboardingWorks x = new OnboardingWorks();
        kit(x, 1, 0);
        kit(x, 1, 1);
        joins(x, 1, 0);
        joins(x, 1, 0, 1);
        joins(x, 1, 0);
        x.order(0, 1, 5);
        due("promise 19, two of three are known", x.shiftBy(0, 3), 6);
        x.leave(0);
        due("promise 19, one, as one has LEFT", x.shiftBy(0, 3), 3);
        x.order(1, 1, 5);
        due("promise 19, two, as the other is known now", x.shiftBy(0, 3), 6);
    }

    /** 19: "with all that is BOOKED as it is" */
    private static void shiftByWithWhatIsBooked() {
        OnboardingWorks x = new OnboardingWorks();
        kit(x, 1, 0);
        course(x, 1, 0);
        x.order(0, 1, 2);
        x.session(1, 5, 1);
        x.session(1, 20, 1);
        joins(x, 1, 0, 1);
        due("promise 19, in time for its SESSION", x.shiftBy(0, 2), 0);
        due("promise 19, a DAY behind it, and not BOOKED anew", x.shiftBy(0, 3), 1);
        due("promise 19, as BOOKED as it was", x.ofStep(0, 1, BOOKED), 0);
    }

    /** "---- what would be (nothing is changed)" */
    private static void shiftByChangesNothing() {
        OnboardingWorks x = new OnboardingWorks();
        kit(x, 1, 0);
        joins(x, 1, 0);
        x.order(0, 1, 3);
        long before = x.digest();
        due("promise 19, it would be later", x.shiftBy(0, 30), 30);
        due("promise 19, nothing is changed", x.digest(), before);
        due("promise 19, what is EXPECTED neither", x.ofJoiner(0, LAST_END), 3);
        toDay(x, 3);
        due("promise 19, it COMES on its DAY", x.ofStep(0, 0, STATE), RUNNING);
    }

    /** 20: "the STEP of it with the smallest number that is not DONE .. (of those that are OPEN, or RUNNING)" */
    private static void nextSmallestNumber() {
        OnboardingWorks x = new OnboardingWorks();
        meeting(x, 2);
        meeting(x, 1);
        kit(x, 1, 0);
        meeting(x, 9);
        joins(x, 2, 0, 1, 2, 3);
        joins(x, 2, 1, 3);
        int[] next = {0, 0, 0, 0, 2, 2};
        for (int day = 0; day <= 5; day++) {
            toDay(x, day);
            due("promise 20, OPEN ahead of START, RUNNING, then the next, on DAY " + day, x.next(0), next[day]);
        }
        due("promise 20, of another JOINER", x.next(1), 3);
        x.stock(0, 1);
        toDay(x, 7);
        due("promise 20, the last one is RUNNING", x.next(0), 3);
    }

    /** 20: "and all that it NEEDS is" */
    private static void nextAllThatItNeeds() {
        OnboardingWorks x = new OnboardingWorks();
        kit(x, 1, 0);
        meeting(x, 1, 0);
        meeting(x, 3);
        meeting(x, 1, 1, 2);
        joins(x, 1, 1, 2, 3);
        joins(x, 1, 2, 3);
        due("promise 20, it NEEDS none of its STEPS", x.next(0), 1);
        toDay(x, 2);
        due("promise 20, one that NEEDS nothing", x.next(0), 2);
        toDay(x, 3);
        due("promise 20, RUNNING still", x.next(1), 2);
        toDay(x, 4);
        due("promise 20, all that it NEEDS is DONE", x.next(0), 3);
        joins(x, 9, 0, 1);
        due("promise 20, not one that NEEDS an OPEN one", x.next(2), 0);
    }

    /** 20: "NONE without one, or if it has LEFT" */
    private static void nextNone() {
        OnboardingWorks x = new OnboardingWorks();
        meeting(x, 1);
        meeting(x, 1, 0);
        joins(x, 1, 0);
        joins(x, 1, 0, 1);
        toDay(x, 2);
        due("promise 20, NONE, as all is DONE", x.next(0), NONE);
        due("promise 20, one that is RUNNING", x.next(1), 1);
        x.leave(1);
        due("promise 20, NONE, as it has LEFT", x.next(1), NONE);
        toDay(x, 5);
        due("promise 20, NONE, as all is TAKEN BACK", x.next(1), NONE);
    }

    /** 21: "how many other STEPS of it NEED that, at once or over others" */
    private static void waitForAtOnceOrOverOthers() {
        OnboardingWorks x = new OnboardingWorks();
        for (int s = 0; s < 12; s++) {
            meeting(x, 1, s == 0 ? new int[0] : new int[] {s - 1});
        }
        x.role(0, 4095);
        x.join(0, 1);
        for (int s = 0; s < 12; s++) {
            due("promise 21, all behind STEP " + s, x.waitFor(0, s), 11 - s);
        }
        OnboardingWorks y = new OnboardingWorks();
        meeting(y, 1);
        meeting(y, 1);
        meeting(y, 1, 0, 1);
        meeting(y, 1, 0, 2);
        joins(y, 1, 0, 1, 2, 3);
        int[] waiting = {2, 2, 1, 0};
        for (int s = 0; s < 4; s++) {
            due("promise 21, each counts once, for STEP " + s, y.waitFor(0, s), waiting[s]);
        }
    }

    /** 21: "(of that JOINER, too)" */
    private static void waitForOfThatJoiner() {
        OnboardingWorks x = new OnboardingWorks();
        meeting(x, 1);
        meeting(x, 1, 0);
        meeting(x, 1, 1);
        meeting(x, 1, 0, 1);
        joins(x, 1, 0, 2, 3);
        joins(x, 1, 0, 1, 2);
        joins(x, 1, 2);
        due("promise 21, not over a STEP of others", x.waitFor(0, 0), 1);
        due("promise 21, not a STEP of others", x.waitFor(1, 0), 2);
        due("promise 21, none", x.waitFor(2, 2), 0);
        Check.refused(x, Check.INDEX, "promise 21, a STEP of others", () -> x.waitFor(2, 0));
    }

    /** 21: "and are not DONE": OPEN and RUNNING ones count, over one that is DONE, too. */
    private static void waitForNotDone() {
        OnboardingWorks x = new OnboardingWorks();
        meeting(x, 1);
        meeting(x, 1, 0);
        meeting(x, 2, 1);
        meeting(x, 1, 2);
        joins(x, 1, 0, 1, 2, 3);
        int[] waiting = {3, 3, 3, 2, 2, 1, 0};
        for (int day = 0; day <= 6; day++) {
            toDay(x, day);
            due("promise 21, not DONE on DAY " + day, x.waitFor(0, 0), waiting[day]);
        }
    }

    /** 21: "not DONE": one that is TAKEN BACK is not; one has LEFT, and the call is not refused. */
    private static void waitForTakenBack() {
        OnboardingWorks x = new OnboardingWorks();
        meeting(x, 1);
        meeting(x, 1, 0);
        joins(x, 1, 0, 1);
        toDay(x, 3);
        x.leave(0);
        due("promise 21, both are DONE, as it LEFT", x.waitFor(0, 0), 0);
        x.day();
        due("promise 21, one is TAKEN BACK", x.waitFor(0, 0), 1);
    }

    /** 22: "A number d starts with 58120; for each of the following numbers v, d becomes d * 31 + v" */
    private static void digestOfANewOffice() {
        BigInteger d = BigInteger.valueOf(58120);
        for (int what = 0; what <= 10; what++) {
            d = d.multiply(BigInteger.valueOf(31));
        }
        for (int item = 0; item <= 3; item++) {
            for (int v : new int[] {0, 0, -1, 0}) {
                d = d.multiply(BigInteger.valueOf(31)).add(BigInteger.valueOf(v));
            }
        }
        due("promise 22, it is too great for 64 bits", d.bitLength() > 64 ? 1 : 0, 1);
        due("promise 22, of a new office", new OnboardingWorks().digest(), d.longValue());
    }

    /** 22: "which wraps around as a 64-bit integer", below 0 and above. */
    private static void digestWrapsAround() {
        int below = 0;
        int above = 0;
        for (int day = 0; day < 40; day++) {
            int last = day;
            long got = onDay(last).digest();
            due("promise 22, wrapped on DAY " + day, got, told(() -> onDay(last)));
            below += got < 0 ? 1 : 0;
            above += got > Integer.MAX_VALUE ? 1 : 0;
        }
        due("promise 22, below 0 at times", below > 0 ? 1 : 0, 1);
        due("promise 22, above 32 bits at times", above > 0 ? 1 : 0, 1);
    }

    private static OnboardingWorks onDay(int day) {
        OnboardingWorks x = new OnboardingWorks();
        toDay(x, day);
        return x;
    }

    /** 22: "many() of 0 to 10; ITEM by ITEM ..; SESSION by SESSION ..; JOINER by JOINER .. waitFor()" */
    private static void digestOrder() {
        for (int day = 0; day <= 30; day += 5) {
            int last = day;
            due("promise 22, of a full office on DAY " + day, full(last).digest(), told(() -> full(last)));
        }
    }

    /** All that there can be, on that DAY; one JOINER LEAVES on each fifth DAY. */
    private static OnboardingWorks full(int day) {
        OnboardingWorks x = new OnboardingWorks();
        form(x, 2, 15);
        kit(x, 1, 1, 0);
        course(x, 2, 1);
        form(x, 1, 60);
        for (int s = 4; s < 12; s++) {
            meeting(x, s - 2, s - 1);
        }
        for (int right = 0; right < 6; right++) {
            x.right(1 << 2 * right);
        }
        for (int session = 0; session < 20; session++) {
            x.session(2, 5 + session, 1 + session % 3);
            x.order(session % 4, 1, 3 + session / 2);
        }
        x.role(1, 3125);
        x.role(2, 4095);
        for (int j = 0; j < 8; j++) {
            x.join(1 + j % 2, 1 + j);
        }
        for (int fifth = 5; fifth <= day; fifth += 5) {
            toDay(x, fifth);
            x.leave(fifth / 5);
        }
        toDay(x, day);
        return x;
    }

    /**
     * What digest() must be, by what the other calls answer, wrapped around at the very end. Built anew
     * for each JOINER, as no object is promised anything behind its 512th call.
     */
    private static long told(Supplier<OnboardingWorks> built) {
        OnboardingWorks x = built.get();
        BigInteger d = BigInteger.valueOf(58120);
        for (int what = 0; what <= 10; what++) {
            d = and(d, x.many(what));
        }
        for (int item = 0; item <= 3; item++) {
            for (int what = 0; what <= 3; what++) {
                d = and(d, x.ofItem(item, what));
            }
        }
        int sessions = x.many(3);
        for (int session = 0; session < sessions; session++) {
            for (int what = 0; what <= 3; what++) {
                d = and(d, x.ofSession(session, what));
            }
        }
        int joiners = x.many(4);
        for (int j = 0; j < joiners; j++) {
            d = told(built.get(), j, d);
        }
        return d.longValue();
    }

    private static BigInteger told(OnboardingWorks x, int j, BigInteger before) {
        BigInteger d = before;
        for (int what = 0; what <= 6; what++) {
            d = and(d, x.ofJoiner(j, what));
        }
        d = and(d, x.next(j));
        int rights = x.many(1);
        for (int right = 0; right < rights; right++) {
            d = and(d, x.rightOn(j, right));
        }
        int steps = x.ofJoiner(j, STEPS);
        for (int step = 0; step < 12; step++) {
            if ((steps & 1 << step) != 0) {
                for (int what = 0; what <= 5; what++) {
                    d = and(d, x.ofStep(j, step, what));
                }
                d = and(d, x.waitFor(j, step));
            }
        }
        return d;
    }

    private static BigInteger and(BigInteger d, int v) {
        return d.multiply(BigInteger.valueOf(31)).add(BigInteger.valueOf(v));
    }

    /** "(nothing is changed)": whoever asks much sees the same as whoever asks nothing. */
    private static void askingChangesNothing() {
        OnboardingWorks asked = new OnboardingWorks();
        OnboardingWorks unasked = new OnboardingWorks();
        for (OnboardingWorks x : new OnboardingWorks[] {asked, unasked}) {
            form(x, 1, 7);
            kit(x, 1, 0, 0);
            course(x, 2, 1);
            x.right(set(0, 1));
            x.order(0, 2, 3);
            x.session(2, 5, 1);
            joins(x, 1, 0, 1, 2);
            joins(x, 2, 0, 1, 2);
        }
        for (int day = 0; day < 8; day++) {
            if (day < 3) {
                asked.shiftBy(0, 30);
            }
            asked.rightOn(0, 0);
            asked.next(1);
            asked.waitFor(1, 0);
            asked.meanDays();
            asked.digest();
            due("promises 18 to 22, nothing is changed", asked.day(), unasked.day());
        }
        due("promises 18 to 22, nothing is changed in all", asked.digest(), unasked.digest());
    }

    /** "(nothing is changed)": what could be BOOKED by now is not, as one asks. */
    private static void askingBooksNothing() {
        OnboardingWorks x = new OnboardingWorks();
        kit(x, 1, 0);
        course(x, 1, 0);
        x.right(set(1));
        x.session(1, 9, 1);
        joins(x, 1, 0, 1);
        x.order(0, 1, 2);
        long before = x.digest();
        due("promise 19, with nothing BOOKED", x.shiftBy(0, 30), 30);
        due("promise 18, with nothing BOOKED", x.rightOn(0, 0), 4);
        due("promise 20, the next STEP", x.next(0), 0);
        due("promise 21, the COURSE waits", x.waitFor(0, 0), 1);
        Check.dueDouble("promise 17, with nothing BOOKED", x.meanDays(), 2.0);
        due("promise 15, with nothing BOOKED", x.ofJoiner(0, LAST_END), 3);
        due("promise 14, nothing is BOOKED", x.ofStep(0, 1, BOOKED), NONE);
        due("promise 22, nothing is changed", x.digest(), before);
    }

    /** "An object is used for at most 512 calls after it has been made": the 512th is due as the first is. */
    private static void upToThe512thCall() {
        OnboardingWorks x = new OnboardingWorks();
        for (int call = 1; call <= 511; call++) {
            due("promise 16, call " + call, x.many(0), 0);
        }
        due("promise 22, call 512", x.digest(), told(OnboardingWorks::new));
    }
}
