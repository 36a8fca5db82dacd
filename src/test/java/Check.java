/** What the tests share: each wrong answer is printed, and counted. */
final class Check {
    interface Call {
        void run();
    }

    static final Class<IllegalArgumentException> ARGUMENT = IllegalArgumentException.class;
    static final Class<IllegalStateException> STATE = IllegalStateException.class;
    static final Class<IndexOutOfBoundsException> INDEX = IndexOutOfBoundsException.class;

    private static int wrong;

    private Check() {
    }

    static void due(String what, long got, long want) {
        if (got != want) {
            tell(what + " answered " + got + ", due is " + want);
        }
    }

    static void dueDouble(String what, double got, double want) {
        if (got != want) {
            tell(what + " answered " + got + ", due is " + want);
        }
    }

    /** The call must throw exactly that, and change nothing. */
    static void refused(OnboardingWorks office, Class<?> want, String what, Call call) {
        long before = office.digest();
        try {
            call.run();
            tell(what + " threw nothing, due is " + want.getSimpleName());
        } catch (RuntimeException e) {
            if (e.getClass() != want) {
                tell(what + " threw " + e + ", due is " + want.getSimpleName());
            }
        }
        due(what + " must change nothing: digest()", office.digest(), before);
    }

    static void days(OnboardingWorks office, int many) {
        for (int i = 0; i < many; i++) {
            office.day();
        }
    }

    static void tell(String text) {
        wrong++;
        System.out.println(text);
    }

    static void end() {
        if (wrong != 0) {
            System.out.println(wrong + " answers are not as due");
            System.exit(1);
        }
    }
}
