/** Promises 1 to 4: a new object, step, role, right. */
public final class StepsRolesRightsTest {
    public static void main(String[] args) {
        newObject();
        stepNumbersAndEdges();
        stepRefusals();
        stepLimit();
        formLengths();
        roles();
        rights();
        Check.end();
    }

    private static void newObject() {
        OnboardingWorks x = new OnboardingWorks();
        for (int what = 0; what <= 10; what++) {
            Check.due("1: many(" + what + ") of a new object", x.many(what), 0);
        }
        for (int item = 0; item < 4; item++) {
            Check.due("1: ofItem(" + item + ", 0)", x.ofItem(item, 0), 0);
            Check.due("1: ofItem(" + item + ", 1)", x.ofItem(item, 1), 0);
            Check.due("1: ofItem(" + item + ", 2)", x.ofItem(item, 2), -1);
            Check.due("1: ofItem(" + item + ", 3)", x.ofItem(item, 3), 0);
        }
        for (int role = 0; role < 4; role++) {
            Check.due("1: role(" + role + ", 0) of a new object", x.role(role, 0), 0);
        }
        Check.dueDouble("1: meanDays() of a new object", x.meanDays(), 0);
        Check.refused(x, Check.ARGUMENT, "1: role with a STEP that there is not", () -> x.role(0, 1));
        OnboardingWorks other = new OnboardingWorks();
        x.step(0, 1, 0, 0);
        Check.due("1: two objects do not meet", other.many(0), 0);
    }

    private static void stepNumbersAndEdges() {
        OnboardingWorks x = new OnboardingWorks();
        Check.due("2: smallest FORM", x.step(0, 1, 0, 0), 0);
        Check.due("2: greatest FORM", x.step(0, 9, 1, 255), 1);
        Check.due("2: KIT of ITEM 0", x.step(1, 1, 3, 0), 2);
        Check.due("2: KIT of ITEM 3", x.step(1, 9, 0, 3), 3);
        Check.due("2: of is not looked at with a COURSE", x.step(2, 1, 15, -7), 4);
        Check.due("2: of is not looked at with a MEETING", x.step(3, 1, 31, Integer.MAX_VALUE), 5);
        Check.due("2: STEPS", x.many(0), 6);
    }

    private static void stepRefusals() {
        OnboardingWorks x = new OnboardingWorks();
        x.step(3, 1, 0, 0);
        int[][] wrong = {
            {-1, 1, 0, 0}, {4, 1, 0, 0}, {Integer.MIN_VALUE, 1, 0, 0}, {0, 0, 0, 0}, {0, 10, 0, 0},
            {0, -1, 0, 0}, {3, 1, -1, 0}, {3, 1, 2, 0}, {3, 1, 3, 0}, {3, 1, 4096, 0},
            {3, 1, Integer.MIN_VALUE, 0}, {0, 1, 0, -1}, {0, 1, 0, 256}, {1, 1, 0, -1}, {1, 1, 0, 4}
        };
        for (int[] w : wrong) {
            String what = "2: step(" + w[0] + ", " + w[1] + ", " + w[2] + ", " + w[3] + ")";
            Check.refused(x, Check.ARGUMENT, what, () -> x.step(w[0], w[1], w[2], w[3]));
        }
        Check.due("2: a refused STEP takes no number", x.step(3, 1, 1, 0), 1);
    }

    private static void stepLimit() {
        OnboardingWorks x = new OnboardingWorks();
        for (int s = 0; s < 12; s++) {
            Check.due("2: STEP " + s, x.step(3, 1, (1 << s) - 1, 0), s);
        }
        Check.refused(x, Check.STATE, "2: the 13th STEP", () -> x.step(3, 1, 4095, 0));
        Check.refused(x, Check.ARGUMENT, "2: a wrong 13th STEP", () -> x.step(3, 0, 0, 0));
        Check.refused(x, Check.ARGUMENT, "2: a 13th that NEEDS itself", () -> x.step(3, 1, 4096, 0));
        x.role(0, 4095);
        x.join(0, 1);
        Check.due("2: twelve MEETINGS in a row", x.ofJoiner(0, 6), 12);
    }

    private static void formLengths() {
        OnboardingWorks x = new OnboardingWorks();
        x.step(0, 1, 0, 7);
        x.step(0, 2, 1, 14);
        x.step(0, 1, 1, 7);
        x.step(3, 4, 0, 255);
        x.role(0, 15);
        x.join(0, 1);
        Check.due("2: 3 FIELDS, rounded up", x.ofStep(0, 0, 4), 3);
        Check.due("2: a FORM that is OPEN counts as it is now", x.ofStep(0, 1, 4), 4);
        Check.due("2: a MEETING has no FIELDS", x.ofStep(0, 3, 4), 4);
        Check.days(x, 3);
        Check.due("2: still RUNNING on its last DAY", x.ofStep(0, 0, 0), 1);
        Check.due("2: fields of a RUNNING FORM count", x.ofStep(0, 1, 4), 4);
        x.day();
        Check.due("2: DONE as the DAY behind begins", x.ofStep(0, 0, 0), 2);
        Check.due("2: how long it was stays so", x.ofStep(0, 0, 4), 3);
        Check.due("2: one new FIELD, rounded up", x.ofStep(0, 1, 4), 3);
        Check.due("2: no new FIELD", x.ofStep(0, 2, 4), 1);
        x.join(0, 6);
        Check.due("2: another's FORMS count for nothing", x.ofStep(1, 2, 4), 3);
    }

    private static void roles() {
        OnboardingWorks x = new OnboardingWorks();
        x.step(3, 1, 0, 0);
        x.step(3, 1, 0, 0);
        Check.due("3: the first set", x.role(3, 3), 0);
        Check.due("3: the next set", x.role(3, 1), 3);
        Check.due("3: no STEPS again", x.role(3, 0), 1);
        Check.due("3: none before", x.role(3, 2), 0);
        Check.due("3: another ROLE", x.role(0, 1), 0);
        Check.refused(x, Check.INDEX, "3: role(-1, 0)", () -> x.role(-1, 0));
        Check.refused(x, Check.INDEX, "3: role(4, 0)", () -> x.role(4, 0));
        Check.refused(x, Check.INDEX, "3: role(4, -1)", () -> x.role(4, -1));
        Check.refused(x, Check.ARGUMENT, "3: role(0, 4)", () -> x.role(0, 4));
        Check.refused(x, Check.ARGUMENT, "3: role(0, -1)", () -> x.role(0, -1));
        Check.refused(x, Check.ARGUMENT, "3: role(0, MIN)", () -> x.role(0, Integer.MIN_VALUE));
        Check.due("3: a refused set is not kept", x.role(0, 1), 1);
        x.join(0, 1);
        x.role(0, 2);
        Check.due("3: a JOINER keeps its STEPS for good", x.ofJoiner(0, 0), 1);
    }

    private static void rights() {
        OnboardingWorks x = new OnboardingWorks();
        x.step(3, 1, 0, 0);
        x.step(3, 1, 0, 0);
        Check.refused(x, Check.ARGUMENT, "4: right(0)", () -> x.right(0));
        Check.refused(x, Check.ARGUMENT, "4: right(-1)", () -> x.right(-1));
        Check.refused(x, Check.ARGUMENT, "4: right(4)", () -> x.right(4));
        for (int r = 0; r < 6; r++) {
            Check.due("4: RIGHT " + r, x.right(1 + r % 3), r);
        }
        Check.due("4: RIGHTS", x.many(1), 6);
        Check.refused(x, Check.STATE, "4: the 7th RIGHT", () -> x.right(1));
        Check.refused(x, Check.ARGUMENT, "4: a wrong 7th RIGHT", () -> x.right(0));
        x.role(0, 1);
        x.join(0, 1);
        Check.days(x, 2);
        Check.due("4: RIGHTS with STEP 0 alone", x.ofJoiner(0, 4), 1 + 8);
    }
}
