/** Promises 5 to 10: stock, order, late, session, ofSession, ofItem. */
public final class KitAndCoursesTest {
    public static void main(String[] args) {
        stock();
        orders();
        late();
        kitGoesRound();
        sessions();
        bookingOrder();
        bookedBehindWhatWasJustBooked();
        bookedAheadAndLost();
        ofSession();
        ofItem();
        Check.end();
    }

    private static void stock() {
        OnboardingWorks x = new OnboardingWorks();
        Check.due("5: one", x.stock(0, 1), 1);
        Check.due("5: twenty more", x.stock(0, 20), 21);
        Check.due("5: another ITEM", x.stock(3, 2), 2);
        Check.refused(x, Check.INDEX, "5: stock(-1, 1)", () -> x.stock(-1, 1));
        Check.refused(x, Check.INDEX, "5: stock(4, 0)", () -> x.stock(4, 0));
        Check.refused(x, Check.ARGUMENT, "5: stock(0, 0)", () -> x.stock(0, 0));
        Check.refused(x, Check.ARGUMENT, "5: stock(0, 21)", () -> x.stock(0, 21));
    }

    private static void orders() {
        OnboardingWorks x = new OnboardingWorks();
        x.day();
        Check.refused(x, Check.INDEX, "6: order(4, 0, 0)", () -> x.order(4, 0, 0));
        Check.refused(x, Check.INDEX, "6: order(-1, 1, 2)", () -> x.order(-1, 1, 2));
        Check.refused(x, Check.ARGUMENT, "6: order(0, 0, 2)", () -> x.order(0, 0, 2));
        Check.refused(x, Check.ARGUMENT, "6: order(0, 21, 2)", () -> x.order(0, 21, 2));
        Check.refused(x, Check.ARGUMENT, "6: order(0, 1, 1), today", () -> x.order(0, 1, 1));
        Check.refused(x, Check.ARGUMENT, "6: order(0, 1, 200)", () -> x.order(0, 1, 200));
        Check.due("6: tomorrow", x.order(0, 20, 2), 0);
        Check.due("6: the last DAY", x.order(1, 1, 199), 1);
        x.day();
        Check.due("6: it came", x.ofItem(0, 0), 20);
        Check.due("6: the other did not", x.ofItem(1, 0), 0);
        x.day();
        Check.due("6: it comes once", x.ofItem(0, 0), 20);
        for (int o = 2; o < 20; o++) {
            Check.due("6: ORDER " + o, x.order(2, 1, 10), o);
        }
        Check.refused(x, Check.STATE, "6: the 21st ORDER", () -> x.order(2, 1, 10));
        Check.refused(x, Check.ARGUMENT, "6: a wrong 21st", () -> x.order(2, 1, 3));
        Check.due("6: ORDERS", x.many(2), 20);
        Check.days(x, 7);
        Check.due("6: all that COME on one DAY", x.ofItem(2, 0), 18);
    }

    private static void late() {
        OnboardingWorks x = new OnboardingWorks();
        x.order(0, 1, 2);
        x.order(0, 1, 199);
        Check.refused(x, Check.INDEX, "7: late(-1, 1)", () -> x.late(-1, 1));
        Check.refused(x, Check.INDEX, "7: late(2, 0)", () -> x.late(2, 0));
        Check.refused(x, Check.ARGUMENT, "7: late(0, 0)", () -> x.late(0, 0));
        Check.refused(x, Check.ARGUMENT, "7: late(0, 31)", () -> x.late(0, 31));
        Check.due("7: one DAY", x.late(0, 1), 3);
        Check.due("7: above 199", x.late(1, 30), 229);
        Check.due("7: again", x.late(1, 30), 259);
        Check.days(x, 2);
        Check.due("7: not on the DAY of before", x.ofItem(0, 0), 0);
        x.day();
        Check.due("7: on the later DAY", x.ofItem(0, 0), 1);
        Check.refused(x, Check.STATE, "7: late(0, 1), it came today", () -> x.late(0, 1));
        Check.refused(x, Check.ARGUMENT, "7: late(0, 0), it came", () -> x.late(0, 0));
        x.day();
        Check.refused(x, Check.STATE, "7: late(0, 1), it came before", () -> x.late(0, 1));
    }

    private static void kitGoesRound() {
        OnboardingWorks x = new OnboardingWorks();
        x.step(1, 2, 0, 2);
        x.role(0, 1);
        x.stock(2, 1);
        x.join(0, 1);
        x.join(0, 1);
        Check.due("5: with STOCK, for everyone", x.ofStep(1, 0, 1), 1);
        x.day();
        Check.due("5: taken as the KIT begins", x.ofItem(2, 0), 0);
        Check.due("5: the first has it", x.ofStep(0, 0, 0), 1);
        Check.due("5: the second waits", x.ofStep(1, 0, 0), 0);
        Check.due("6: without an ORDER not known", x.ofStep(1, 0, 1), -1);
        x.order(2, 1, 6);
        x.order(2, 1, 5);
        Check.due("6: the earliest ORDER", x.ofStep(1, 0, 1), 5);
        x.leave(0);
        x.day();
        Check.due("5: in the STOCK again", x.ofItem(2, 0), 1);
        Check.due("5: not for one who waits on that DAY", x.ofStep(1, 0, 0), 0);
        Check.due("5: but tomorrow", x.ofStep(1, 0, 1), 3);
        x.day();
        Check.due("5: begun with the KIT that came back", x.ofStep(1, 0, 0), 1);
    }

    private static void sessions() {
        OnboardingWorks x = new OnboardingWorks();
        x.step(2, 1, 0, 0);
        x.step(3, 1, 0, 0);
        x.day();
        Check.refused(x, Check.INDEX, "8: session(-1, 0, 0)", () -> x.session(-1, 0, 0));
        Check.refused(x, Check.INDEX, "8: session(2, 2, 1)", () -> x.session(2, 2, 1));
        Check.refused(x, Check.ARGUMENT, "8: no COURSE", () -> x.session(1, 2, 1));
        Check.refused(x, Check.ARGUMENT, "8: today", () -> x.session(0, 1, 1));
        Check.refused(x, Check.ARGUMENT, "8: DAY 200", () -> x.session(0, 200, 1));
        Check.refused(x, Check.ARGUMENT, "8: no SEATS", () -> x.session(0, 2, 0));
        Check.refused(x, Check.ARGUMENT, "8: ten SEATS", () -> x.session(0, 2, 10));
        for (int s = 0; s < 20; s++) {
            Check.due("8: SESSION " + s, x.session(0, s == 0 ? 2 : 199, s == 0 ? 1 : 9), s);
        }
        Check.refused(x, Check.STATE, "8: the 21st SESSION", () -> x.session(0, 2, 1));
        Check.refused(x, Check.ARGUMENT, "8: a wrong 21st", () -> x.session(1, 2, 1));
        Check.due("8: SESSIONS", x.many(3), 20);
        x.role(0, 1);
        x.join(0, 3);
        Check.due("8: booked with all 20 there", x.ofStep(0, 0, 3), 1);
    }

    private static void bookingOrder() {
        OnboardingWorks x = new OnboardingWorks();
        x.step(2, 2, 0, 0);
        x.step(2, 1, 1, 0);
        x.role(0, 3);
        x.session(1, 6, 9);
        x.session(0, 4, 1);
        x.session(0, 4, 1);
        x.session(0, 3, 1);
        x.join(0, 4);
        Check.due("8: not ahead of its START; of several the smallest", x.ofStep(0, 0, 3), 1);
        Check.due("8: what NEEDS it is booked behind it", x.ofStep(0, 1, 3), 0);
        x.join(0, 1);
        Check.due("8: the earliest DAY", x.ofStep(1, 0, 3), 3);
        x.join(0, 1);
        Check.due("8: the SEAT that is left", x.ofStep(2, 0, 3), 2);
        x.join(0, 1);
        Check.due("8: no SEAT", x.ofStep(3, 0, 3), -1);
        Check.due("8: expected without a SESSION", x.ofStep(3, 0, 1), 1);
        Check.due("8: and the next COURSE as that says", x.ofStep(3, 1, 3), 0);
        x.session(0, 2, 1);
        Check.due("8: a new SESSION is booked at once", x.ofStep(3, 0, 3), 4);
        Check.due("8: one who has one keeps it", x.ofStep(1, 0, 3), 3);
        x.leave(0);
        Check.due("8: all booked for an OPEN STEP goes", x.ofSession(1, 3), 0);
        x.join(0, 3);
        Check.due("8: the SEAT is there again", x.ofStep(4, 0, 3), 1);
    }

    private static void bookedBehindWhatWasJustBooked() {
        OnboardingWorks x = new OnboardingWorks();
        x.step(2, 2, 0, 0);
        x.step(2, 1, 1, 0);
        x.role(0, 3);
        x.session(0, 4, 1);
        x.session(1, 3, 1);
        x.session(1, 5, 1);
        x.session(1, 6, 1);
        x.join(0, 1);
        Check.due("8: the first COURSE", x.ofStep(0, 0, 3), 0);
        Check.due("8: the second behind its SESSION", x.ofStep(0, 1, 3), 3);
        Check.due("8: both as booked", x.ofJoiner(0, 6), 6);
    }

    private static void bookedAheadAndLost() {
        OnboardingWorks x = new OnboardingWorks();
        x.step(1, 1, 0, 0);
        x.step(2, 1, 1, 0);
        x.role(0, 3);
        x.join(0, 1);
        x.session(1, 9, 1);
        Check.due("8: none, if what it NEEDS is not known", x.ofStep(0, 1, 3), -1);
        x.order(0, 1, 2);
        Check.due("8: an ORDER books nothing by itself", x.ofStep(0, 1, 3), -1);
        x.session(1, 3, 1);
        Check.due("8: booked ahead", x.ofStep(0, 1, 3), 1);
        x.late(0, 1);
        Check.due("8: a late ORDER leaves it booked", x.ofStep(0, 1, 3), 1);
        Check.due("8: expected behind the KIT", x.ofStep(0, 1, 1), 4);
        Check.days(x, 2);
        Check.due("8: not LOST ahead of its DAY", x.ofStep(0, 1, 5), 0);
        x.day();
        Check.due("8: LOST", x.ofStep(0, 1, 5), 1);
        Check.due("8: the SEAT that was LOST", x.ofSession(1, 3), 0);
        Check.due("8: all is BOOKED behind that", x.ofStep(0, 1, 3), 0);
        Check.due("8: so it waits for that", x.ofStep(0, 1, 1), 9);
        Check.days(x, 5);
        Check.due("8: no COURSE ahead of its SESSION", x.ofStep(0, 1, 0), 0);
        x.day();
        Check.due("8: begins with its SESSION", x.ofStep(0, 1, 0), 1);
        Check.due("8: and is booked ever after", x.ofSession(0, 3), 1);
        x.day();
        x.leave(0);
        Check.days(x, 2);
        Check.due("8: even as it is TAKEN BACK", x.ofStep(0, 1, 0), 3);
        Check.due("8: it stays booked", x.ofStep(0, 1, 3), 0);
        Check.due("8: and its SEAT", x.ofSession(0, 3), 1);
    }

    private static void ofSession() {
        OnboardingWorks x = new OnboardingWorks();
        x.step(3, 1, 0, 0);
        x.step(2, 1, 0, 0);
        x.role(0, 2);
        x.join(0, 1);
        Check.refused(x, Check.INDEX, "9: without a SESSION", () -> x.ofSession(0, 0));
        x.session(1, 7, 5);
        Check.due("9: COURSE", x.ofSession(0, 0), 1);
        Check.due("9: DAY", x.ofSession(0, 1), 7);
        Check.due("9: SEATS", x.ofSession(0, 2), 5);
        Check.due("9: BOOKED", x.ofSession(0, 3), 1);
        Check.refused(x, Check.INDEX, "9: ofSession(-1, 0)", () -> x.ofSession(-1, 0));
        Check.refused(x, Check.INDEX, "9: ofSession(1, 4)", () -> x.ofSession(1, 4));
        Check.refused(x, Check.ARGUMENT, "9: ofSession(0, 4)", () -> x.ofSession(0, 4));
        Check.refused(x, Check.ARGUMENT, "9: ofSession(0, -1)", () -> x.ofSession(0, -1));
    }

    private static void ofItem() {
        OnboardingWorks x = new OnboardingWorks();
        x.step(3, 1, 0, 0);
        x.step(1, 1, 1, 1);
        x.step(1, 1, 0, 1);
        x.step(1, 1, 0, 2);
        x.role(0, 15);
        x.order(1, 3, 9);
        x.order(1, 4, 7);
        x.order(2, 5, 3);
        Check.due("10: still to COME", x.ofItem(1, 1), 7);
        Check.due("10: the earliest", x.ofItem(1, 2), 7);
        x.join(0, 1);
        x.join(0, 2);
        Check.due("10: none waits ahead of its START", x.ofItem(1, 3), 0);
        x.day();
        Check.due("10: READY, and waits", x.ofItem(1, 3), 1);
        x.day();
        Check.due("10: three wait", x.ofItem(1, 3), 3);
        x.leave(1);
        Check.due("10: not of one who has LEFT", x.ofItem(1, 3), 2);
        x.day();
        Check.due("10: nothing to COME", x.ofItem(2, 1), 0);
        Check.due("10: no DAY", x.ofItem(2, 2), -1);
        Check.due("10: one was taken", x.ofItem(2, 0), 4);
        x.stock(1, 1);
        Check.due("10: they wait, with STOCK too", x.ofItem(1, 3), 2);
        x.day();
        Check.due("10: the smaller number got it", x.ofStep(0, 1, 0), 1);
        Check.due("10: one waits", x.ofItem(1, 3), 1);
        Check.refused(x, Check.INDEX, "10: ofItem(-1, 0)", () -> x.ofItem(-1, 0));
        Check.refused(x, Check.INDEX, "10: ofItem(4, 4)", () -> x.ofItem(4, 4));
        Check.refused(x, Check.ARGUMENT, "10: ofItem(0, 4)", () -> x.ofItem(0, 4));
        Check.refused(x, Check.ARGUMENT, "10: ofItem(0, -1)", () -> x.ofItem(0, -1));
    }
}
