/** Promises 18 to 21: rightOn, shiftBy, next, waitFor. */
public final class WhatWouldBeTest {
    public static void main(String[] args) {
        rightOn();
        shiftBy();
        shiftOfSeveral();
        shiftKeepsBookings();
        next();
        waitFor();
        Check.end();
    }

    private static void rightOn() {
        OnboardingWorks x = new OnboardingWorks();
        x.step(3, 2, 0, 0);
        x.step(3, 4, 1, 0);
        x.step(1, 1, 0, 0);
        x.step(3, 1, 0, 0);
        x.right(1);
        x.right(3);
        x.right(5);
        x.right(9);
        x.role(0, 7);
        x.join(0, 3);
        Check.refused(x, Check.INDEX, "18: rightOn(1, 0)", () -> x.rightOn(1, 0));
        Check.refused(x, Check.INDEX, "18: rightOn(-1, 0)", () -> x.rightOn(-1, 0));
        Check.refused(x, Check.INDEX, "18: rightOn(0, 4)", () -> x.rightOn(0, 4));
        Check.refused(x, Check.INDEX, "18: rightOn(0, -1)", () -> x.rightOn(0, -1));
        Check.due("18: behind one STEP", x.rightOn(0, 0), 5);
        Check.due("18: behind the greatest end", x.rightOn(0, 1), 9);
        Check.due("18: not known", x.rightOn(0, 2), -1);
        Check.due("18: a STEP of others", x.rightOn(0, 3), -1);
        Check.days(x, 7);
        Check.due("18: one that it HAS", x.rightOn(0, 0), 5);
        x.leave(0);
        Check.due("18: LEFT", x.rightOn(0, 0), -1);
    }

    private static void shiftBy() {
        OnboardingWorks x = new OnboardingWorks();
        x.step(1, 1, 0, 0);
        x.step(3, 6, 0, 0);
        x.role(0, 3);
        x.join(0, 1);
        x.order(0, 1, 4);
        Check.refused(x, Check.INDEX, "19: shiftBy(1, 0)", () -> x.shiftBy(1, 0));
        Check.refused(x, Check.INDEX, "19: shiftBy(-1, 1)", () -> x.shiftBy(-1, 1));
        Check.refused(x, Check.ARGUMENT, "19: shiftBy(0, 0)", () -> x.shiftBy(0, 0));
        Check.refused(x, Check.ARGUMENT, "19: shiftBy(0, 31)", () -> x.shiftBy(0, 31));
        long before = x.digest();
        Check.due("19: within the longer STEP", x.shiftBy(0, 2), 0);
        Check.due("19: one DAY behind it", x.shiftBy(0, 3), 1);
        Check.due("19: the most", x.shiftBy(0, 30), 28);
        Check.due("19: nothing is changed", x.digest(), before);
        x.order(0, 1, 9);
        Check.due("19: another ORDER COMES then", x.shiftBy(0, 30), 3);
        Check.due("19: one that is not waited for", x.shiftBy(1, 30), 0);
        x.stock(0, 1);
        Check.due("19: with STOCK", x.shiftBy(0, 30), 0);
        Check.days(x, 4);
        Check.refused(x, Check.STATE, "19: it came", () -> x.shiftBy(0, 1));
        Check.refused(x, Check.ARGUMENT, "19: it came, no DAYS", () -> x.shiftBy(0, 0));
    }

    private static void shiftOfSeveral() {
        OnboardingWorks x = new OnboardingWorks();
        x.step(1, 1, 0, 0);
        x.step(3, 1, 1, 0);
        x.step(1, 1, 0, 1);
        x.role(0, 1);
        x.role(1, 3);
        x.role(2, 7);
        x.order(0, 2, 5);
        x.join(0, 1);
        x.join(1, 7);
        x.join(2, 1);
        Check.due("19: 4 and 2, one not known", x.shiftBy(0, 4), 6);
        x.join(0, 1);
        Check.due("19: 4, 2 and 4", x.shiftBy(0, 4), 10);
        x.leave(0);
        Check.due("19: not of one who has LEFT", x.shiftBy(0, 4), 6);
    }

    private static void shiftKeepsBookings() {
        OnboardingWorks x = new OnboardingWorks();
        x.step(1, 1, 0, 0);
        x.step(2, 1, 1, 0);
        x.role(0, 3);
        x.order(0, 1, 2);
        x.session(1, 3, 1);
        x.session(1, 20, 1);
        x.join(0, 1);
        Check.due("19: booked for DAY 3", x.ofStep(0, 1, 3), 0);
        Check.due("19: it would not be booked anew", x.shiftBy(0, 5), 5);
    }

    private static void next() {
        OnboardingWorks x = new OnboardingWorks();
        x.step(3, 2, 0, 0);
        x.step(3, 1, 1, 0);
        x.step(3, 1, 0, 0);
        x.step(1, 1, 0, 0);
        x.role(0, 15);
        x.role(1, 2);
        x.join(0, 9);
        x.join(1, 9);
        Check.refused(x, Check.INDEX, "20: next(2)", () -> x.next(2));
        Check.refused(x, Check.INDEX, "20: next(-1)", () -> x.next(-1));
        Check.due("20: ahead of START, too", x.next(0), 0);
        Check.due("20: what is no STEP of it counts for nothing", x.next(1), 1);
        Check.days(x, 9);
        Check.due("20: RUNNING", x.next(0), 0);
        Check.days(x, 2);
        Check.due("20: the next one", x.next(0), 1);
        x.day();
        Check.due("20: the KIT, without STOCK", x.next(0), 3);
        Check.due("20: all is DONE", x.next(1), -1);
        x.leave(0);
        Check.due("20: LEFT", x.next(0), -1);
    }

    private static void waitFor() {
        OnboardingWorks x = new OnboardingWorks();
        x.step(3, 1, 0, 0);
        x.step(3, 1, 1, 0);
        x.step(3, 1, 2, 0);
        x.step(3, 1, 0, 0);
        x.step(3, 1, 5, 0);
        x.role(0, 31);
        x.role(1, 29);
        x.join(0, 1);
        x.join(1, 1);
        Check.refused(x, Check.INDEX, "21: waitFor(2, 0)", () -> x.waitFor(2, 0));
        Check.refused(x, Check.INDEX, "21: waitFor(-1, 0)", () -> x.waitFor(-1, 0));
        Check.refused(x, Check.INDEX, "21: waitFor(0, 5)", () -> x.waitFor(0, 5));
        Check.refused(x, Check.INDEX, "21: waitFor(0, -1)", () -> x.waitFor(0, -1));
        Check.refused(x, Check.INDEX, "21: waitFor(0, 32)", () -> x.waitFor(0, 32));
        Check.refused(x, Check.INDEX, "21: waitFor(1, 1)", () -> x.waitFor(1, 1));
        Check.due("21: at once and over others", x.waitFor(0, 0), 3);
        Check.due("21: the next", x.waitFor(0, 1), 2);
        Check.due("21: none", x.waitFor(0, 3), 0);
        Check.due("21: only over STEPS of that JOINER", x.waitFor(1, 0), 1);
        Check.due("21: at once", x.waitFor(1, 2), 1);
        Check.days(x, 3);
        Check.due("21: those that are not DONE, over one that is", x.waitFor(0, 0), 2);
        Check.days(x, 2);
        Check.due("21: all is DONE", x.waitFor(0, 0), 0);
        x.leave(0);
        x.day();
        Check.due("21: TAKEN BACK is not DONE", x.waitFor(0, 0), 1);
    }
}
