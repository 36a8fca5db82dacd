/** Promises 11 to 17: join, leave, day, ofStep, ofJoiner, many, meanDays. */
public final class JoinersTest {
    public static void main(String[] args) {
        join();
        joinBooks();
        leave();
        takenBackInReverse();
        leaveFreesSeats();
        day();
        lastDay();
        ofStep();
        needsOutsideTheRole();
        ofJoiner();
        many();
        meanDays();
        Check.end();
    }

    private static OnboardingWorks meetings(int... needs) {
        OnboardingWorks x = new OnboardingWorks();
        for (int need : needs) {
            x.step(3, 1, need, 0);
        }
        x.role(0, (1 << needs.length) - 1);
        return x;
    }

    private static void join() {
        OnboardingWorks x = meetings(0);
        x.day();
        Check.refused(x, Check.INDEX, "11: join(-1, 2)", () -> x.join(-1, 2));
        Check.refused(x, Check.INDEX, "11: join(4, 0)", () -> x.join(4, 0));
        Check.refused(x, Check.ARGUMENT, "11: today", () -> x.join(0, 1));
        Check.refused(x, Check.ARGUMENT, "11: DAY 200", () -> x.join(0, 200));
        Check.refused(x, Check.STATE, "11: a ROLE without STEPS", () -> x.join(1, 2));
        Check.refused(x, Check.ARGUMENT, "11: that, and today", () -> x.join(1, 1));
        for (int j = 0; j < 8; j++) {
            Check.due("11: JOINER " + j, x.join(0, j == 0 ? 2 : 199), j);
        }
        Check.refused(x, Check.STATE, "11: the 9th", () -> x.join(0, 2));
        x.leave(0);
        Check.refused(x, Check.STATE, "11: one who has LEFT counts", () -> x.join(0, 2));
        Check.refused(x, Check.ARGUMENT, "11: a wrong 9th", () -> x.join(0, 1));
    }

    private static void joinBooks() {
        OnboardingWorks x = new OnboardingWorks();
        x.step(2, 1, 0, 0);
        x.role(0, 1);
        x.session(0, 5, 1);
        x.join(0, 5);
        Check.due("11: booked on the DAY of its START", x.ofStep(0, 0, 3), 0);
        Check.days(x, 5);
        Check.due("11: and begun", x.ofStep(0, 0, 0), 1);
        x.session(0, 7, 1);
        x.join(0, 8);
        Check.due("11: none ahead of START", x.ofStep(1, 0, 3), -1);
    }

    private static void leave() {
        OnboardingWorks x = meetings(0, 1, 2);
        x.join(0, 1);
        x.join(0, 1);
        Check.due("12: nothing began", x.leave(0), 0);
        Check.refused(x, Check.STATE, "12: it has LEFT", () -> x.leave(0));
        Check.refused(x, Check.INDEX, "12: leave(-1)", () -> x.leave(-1));
        Check.refused(x, Check.INDEX, "12: leave(2)", () -> x.leave(2));
        Check.days(x, 2);
        Check.due("12: one DONE, one RUNNING", x.leave(1), 2);
        Check.due("12: one who has LEFT begins nothing", x.ofStep(0, 0, 0), 0);
    }

    private static void takenBackInReverse() {
        OnboardingWorks x = new OnboardingWorks();
        x.step(3, 3, 0, 0);
        x.step(3, 1, 0, 0);
        x.step(1, 1, 2, 0);
        x.step(3, 1, 4, 0);
        x.role(0, 15);
        x.right(2);
        x.right(6);
        x.stock(0, 1);
        x.join(0, 1);
        Check.days(x, 3);
        Check.due("12: all that began", x.leave(0), 4);
        Check.due("12: nothing is TAKEN BACK at once", x.ofStep(0, 3, 0), 1);
        Check.due("12: RIGHTS are still there", x.ofJoiner(0, 4), 3);
        Check.due("13: RUNNING ones of one who LEFT are not DONE", x.day(), 0);
        Check.due("12: the last one first", x.ofStep(0, 3, 0), 3);
        Check.due("12: one a DAY", x.ofStep(0, 2, 0), 2);
        Check.due("12: RIGHTS as before", x.ofJoiner(0, 4), 3);
        x.day();
        Check.due("12: then the KIT", x.ofStep(0, 2, 0), 3);
        Check.due("12: in the STOCK again", x.ofItem(0, 0), 1);
        Check.due("12: a RIGHT went with it", x.ofJoiner(0, 4), 1);
        x.day();
        Check.due("12: of two of one DAY the greatest number", x.ofStep(0, 1, 0), 3);
        Check.due("12: the other is RUNNING still", x.ofStep(0, 0, 0), 1);
        Check.due("12: no RIGHT", x.ofJoiner(0, 4), 0);
        x.day();
        Check.due("12: RUNNING ones are TAKEN BACK, too", x.ofStep(0, 0, 0), 3);
        Check.due("12: nothing is left", x.day(), 0);
        Check.due("12: as long as it was", x.ofStep(0, 0, 4), 3);
    }

    private static void leaveFreesSeats() {
        OnboardingWorks x = new OnboardingWorks();
        x.step(2, 3, 0, 0);
        x.role(0, 1);
        x.session(0, 2, 1);
        x.join(0, 1);
        x.join(0, 1);
        Check.due("12: no SEAT for the second", x.ofStep(1, 0, 3), -1);
        x.leave(0);
        Check.due("12: then all is BOOKED", x.ofStep(1, 0, 3), 0);
        Check.due("12: not for the one who LEFT", x.ofStep(0, 0, 3), -1);
        Check.due("12: that is not LOST", x.ofStep(0, 0, 5), 0);
        Check.days(x, 2);
        x.leave(1);
        Check.due("12: RUNNING ones stay booked", x.ofStep(1, 0, 3), 0);
    }

    private static void day() {
        OnboardingWorks x = meetings(0, 1, 0);
        Check.due("13: nobody there", x.day(), 0);
        x.join(0, 2);
        x.join(0, 3);
        Check.due("13: two begin", x.day(), 0);
        Check.due("13: RUNNING", x.many(7), 2);
        Check.due("13: two are DONE", x.day(), 2);
        Check.due("13: what NEEDS them begins on that DAY", x.ofStep(0, 1, 1), 3);
        Check.due("13: one and two are DONE", x.day(), 3);
        Check.due("13: the last", x.day(), 1);
        Check.due("13: the DAY", x.many(10), 5);
    }

    private static void lastDay() {
        OnboardingWorks x = meetings(0);
        x.join(0, 199);
        Check.days(x, 198);
        Check.due("13: DAY 199 begins", x.day(), 0);
        Check.due("13: and with it a STEP", x.ofStep(0, 0, 0), 1);
        Check.due("13: it is DAY 199", x.many(10), 199);
        Check.refused(x, Check.STATE, "13: no DAY behind that", () -> x.day());
        Check.refused(x, Check.ARGUMENT, "11: nobody joins then", () -> x.join(0, 199));
        Check.refused(x, Check.ARGUMENT, "11: nor on DAY 200", () -> x.join(0, 200));
    }

    private static void ofStep() {
        OnboardingWorks x = new OnboardingWorks();
        x.step(3, 2, 0, 0);
        x.step(1, 3, 1, 0);
        x.step(3, 1, 2, 0);
        x.step(3, 1, 0, 0);
        x.role(0, 7);
        x.join(0, 4);
        Check.refused(x, Check.INDEX, "14: no such JOINER", () -> x.ofStep(1, 0, 0));
        Check.refused(x, Check.INDEX, "14: JOINER -1", () -> x.ofStep(-1, 0, 6));
        Check.refused(x, Check.INDEX, "14: STEP -1", () -> x.ofStep(0, -1, 0));
        Check.refused(x, Check.INDEX, "14: STEP 12", () -> x.ofStep(0, 12, 0));
        Check.refused(x, Check.INDEX, "14: STEP 32", () -> x.ofStep(0, 32, 0));
        Check.refused(x, Check.INDEX, "14: a STEP of others", () -> x.ofStep(0, 3, 6));
        Check.refused(x, Check.ARGUMENT, "14: what 6", () -> x.ofStep(0, 0, 6));
        Check.refused(x, Check.ARGUMENT, "14: what -1", () -> x.ofStep(0, 0, -1));
        Check.due("14: at START", x.ofStep(0, 0, 1), 4);
        Check.due("14: two DAYS", x.ofStep(0, 0, 2), 5);
        Check.due("14: a KIT that is not known", x.ofStep(0, 1, 1), -1);
        Check.due("14: nor its end", x.ofStep(0, 1, 2), -1);
        Check.due("14: nor what NEEDS it", x.ofStep(0, 2, 1), -1);
        Check.due("14: none booked", x.ofStep(0, 0, 3), -1);
        x.stock(0, 1);
        Check.due("14: with STOCK", x.ofStep(0, 1, 1), 6);
        Check.due("14: its end", x.ofStep(0, 1, 2), 8);
        Check.due("14: behind that", x.ofStep(0, 2, 1), 9);
        Check.due("14: how long it would be", x.ofStep(0, 1, 4), 3);
        Check.days(x, 4);
        Check.due("14: RUNNING", x.ofStep(0, 0, 0), 1);
        Check.due("14: the DAY on which it began", x.ofStep(0, 0, 1), 4);
        Check.days(x, 2);
        Check.due("14: DONE", x.ofStep(0, 0, 0), 2);
        Check.due("14: its end as it was", x.ofStep(0, 0, 2), 5);
        x.leave(0);
        Check.due("14: LEFT", x.ofStep(0, 0, 1), -1);
        Check.due("14: LEFT, the end", x.ofStep(0, 0, 2), -1);
        Check.due("14: LEFT, the state", x.ofStep(0, 0, 0), 2);
        Check.due("14: LEFT, how long", x.ofStep(0, 0, 4), 2);
    }

    private static void needsOutsideTheRole() {
        OnboardingWorks x = meetings(0, 1, 2);
        x.role(0, 5);
        x.join(0, 1);
        Check.due("14: what is no STEP of it counts for nothing", x.ofStep(0, 2, 1), 1);
        x.day();
        Check.due("13: so it begins", x.ofStep(0, 2, 0), 1);
    }

    private static void ofJoiner() {
        OnboardingWorks x = meetings(0, 1, 0);
        x.right(1);
        x.right(8 - 1);
        x.step(3, 1, 0, 0);
        x.right(8);
        x.join(0, 2);
        Check.refused(x, Check.INDEX, "15: ofJoiner(1, 0)", () -> x.ofJoiner(1, 0));
        Check.refused(x, Check.INDEX, "15: ofJoiner(-1, 7)", () -> x.ofJoiner(-1, 7));
        Check.refused(x, Check.ARGUMENT, "15: ofJoiner(0, 7)", () -> x.ofJoiner(0, 7));
        Check.refused(x, Check.ARGUMENT, "15: ofJoiner(0, -1)", () -> x.ofJoiner(0, -1));
        Check.due("15: STEPS", x.ofJoiner(0, 0), 7);
        Check.due("15: START", x.ofJoiner(0, 1), 2);
        Check.due("15: the greatest end", x.ofJoiner(0, 6), 3);
        Check.days(x, 3);
        Check.due("15: DONE", x.ofJoiner(0, 2), 2);
        Check.due("15: RUNNING", x.ofJoiner(0, 3), 1);
        Check.due("15: RIGHTS", x.ofJoiner(0, 4), 1);
        x.day();
        Check.due("15: more RIGHTS, not one with a STEP of others", x.ofJoiner(0, 4), 3);
        Check.due("15: not LEFT", x.ofJoiner(0, 5), 0);
        Check.due("15: all are DONE", x.ofJoiner(0, 6), 3);
        x.leave(0);
        Check.due("15: LEFT", x.ofJoiner(0, 5), 1);
        Check.due("15: no end then", x.ofJoiner(0, 6), -1);
        OnboardingWorks y = new OnboardingWorks();
        y.step(3, 9, 0, 0);
        y.step(1, 1, 0, 0);
        y.role(0, 3);
        y.join(0, 1);
        Check.due("15: one is not known", y.ofJoiner(0, 6), -1);
    }

    private static void many() {
        OnboardingWorks x = new OnboardingWorks();
        x.step(2, 1, 0, 0);
        x.step(3, 1, 0, 0);
        x.step(3, 5, 0, 0);
        x.role(0, 7);
        x.right(2);
        x.right(1);
        x.order(0, 1, 5);
        x.session(0, 2, 3);
        x.session(0, 9, 3);
        x.join(0, 1);
        x.join(0, 1);
        x.join(0, 3);
        Check.days(x, 3);
        x.leave(1);
        int[] want = {3, 2, 1, 2, 3, 1, 4, 4, 4, 3, 3};
        for (int what = 0; what <= 10; what++) {
            Check.due("16: many(" + what + ")", x.many(what), want[what]);
        }
        Check.refused(x, Check.ARGUMENT, "16: many(11)", () -> x.many(11));
        Check.refused(x, Check.ARGUMENT, "16: many(-1)", () -> x.many(-1));
        x.day();
        Check.due("16: TAKEN BACK is not RUNNING", x.many(7), 3);
    }

    private static void meanDays() {
        OnboardingWorks x = new OnboardingWorks();
        x.step(3, 2, 0, 0);
        x.step(3, 5, 0, 0);
        x.step(1, 1, 0, 0);
        x.role(0, 1);
        x.role(1, 2);
        x.role(2, 4);
        x.join(2, 7);
        Check.dueDouble("17: none known", x.meanDays(), 0.0);
        x.join(0, 9);
        x.join(1, 3);
        Check.dueDouble("17: 1 and 4", x.meanDays(), 2.5);
        x.join(0, 4);
        Check.dueDouble("17: not cut", x.meanDays(), 2.0);
        x.join(1, 8);
        Check.dueDouble("17: 1, 4, 1, 4", x.meanDays(), 2.5);
        x.leave(3);
        Check.dueDouble("17: not of one who has LEFT", x.meanDays(), 3.0);
        x.order(0, 1, 9);
        Check.dueDouble("17: 1, 4, 4, and 2", x.meanDays(), 2.75);
        x.leave(1);
        Check.dueDouble("17: 4, 4, 2", x.meanDays(), 10.0 / 3.0);
    }
}
