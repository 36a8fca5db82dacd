import java.util.Arrays;

/** Long runs of calls, each answered by the class and by NaiveOffice; wrong and wild ones, too. */
public final class ModelTest {
    private static final int RUNS = 240;
    private static final int CALLS = 512;
    private static final int[] WILD = {
        -1, -2, 12, 13, 20, 31, 32, 33, 63, 64, 199, 200, 255, 256, 4095, 4096, 1 << 30,
        Integer.MIN_VALUE, Integer.MIN_VALUE + 1, Integer.MAX_VALUE, Integer.MAX_VALUE - 1
    };
    private static final String[] NAMES = {
        "step", "role", "right", "stock", "order", "late", "session", "ofSession", "ofItem", "join",
        "leave", "day", "ofStep", "ofJoiner", "many", "meanDays", "rightOn", "shiftBy", "next",
        "waitFor"
    };
    /** How many arguments each takes, in the order of NAMES. */
    private static final int[] TAKES = {4, 2, 1, 2, 3, 2, 3, 2, 2, 2, 1, 0, 3, 2, 1, 0, 2, 2, 1, 2};
    /** How often each is called beside the others, in the order of NAMES. */
    private static final int[] OFTEN = {4, 3, 1, 1, 2, 2, 5, 1, 2, 3, 1, 25, 6, 3, 1, 1, 2, 4, 1, 2};

    private static long seed;

    public static void main(String[] args) {
        int runs = args.length > 0 ? Integer.parseInt(args[0]) : RUNS;
        for (int run = 0; run < runs; run++) {
            seed = run * 7919L + 17;
            if (!sameRun(run)) {
                break;
            }
        }
        Check.end();
    }

    private static int pick(int bound) {
        seed = seed * 6364136223846793005L + 1442695040888963407L;
        return (int) ((seed >>> 33) % bound);
    }

    /** As many calls as an object is promised for; the 512th is a digest(). */
    private static boolean sameRun(int run) {
        OnboardingWorks x = new OnboardingWorks();
        NaiveOffice model = new NaiveOffice();
        int leaving = 1 + pick(12);
        int digestEach = run % 2 == 0 ? 2 : 16;
        int told = 0;
        String before = "a new object";
        for (int call = 1; call <= CALLS; call++) {
            if (call % digestEach == 0) {
                if (x.digest() != digest(model)) {
                    Check.tell("digest() is not as due behind " + before);
                    return false;
                }
                continue;
            }
            int name = told < 14 ? 0 : told < 20 ? 1 : weighted();
            if (name == 10 && pick(leaving) != 0) {
                name = 11;
            }
            told++;
            int[] with = arguments(name, model);
            String got = Calls.answer(x, NAMES[name], with);
            String want = Calls.answer(model, NAMES[name], with);
            before = "run " + run + ", call " + call + ": " + Calls.text(NAMES[name], with);
            if (!got.equals(want)) {
                Check.tell(before + " answered " + got + ", due is " + want);
                return false;
            }
        }
        return true;
    }

    private static int weighted() {
        int sum = 0;
        for (int often : OFTEN) {
            sum += often;
        }
        int at = pick(sum);
        for (int name = 0; name < OFTEN.length; name++) {
            at -= OFTEN[name];
            if (at < 0) {
                return name;
            }
        }
        return 0;
    }

    private static int[] arguments(int name, NaiveOffice m) {
        int set = pick(1 << Math.max(1, m.steps.size())) | pick(1 << Math.max(1, m.steps.size()));
        int few = set & pick(4096) & pick(4096);
        int soon = m.today + 1 + pick(14);
        int j = pick(Math.max(1, m.people.size()));
        int s = pick(Math.max(1, m.steps.size()));
        int[] with;
        switch (NAMES[name]) {
            case "step": with = stepArguments(m, few); break;
            case "role": with = new int[] {pick(4), set}; break;
            case "right": with = new int[] {few}; break;
            case "stock": with = new int[] {pick(4), 1 + pick(2)}; break;
            case "order": with = new int[] {pick(4), 1 + pick(3), soon}; break;
            case "late": case "shiftBy": with = new int[] {lately(m.orders.size()), 1 + pick(30)}; break;
            case "session": with = new int[] {course(m, s), soon, 1 + pick(3)}; break;
            case "ofSession": with = new int[] {pick(m.sessions.size() + 1), pick(4)}; break;
            case "ofItem": with = new int[] {pick(4), pick(4)}; break;
            case "join": with = new int[] {pick(4), m.today + 1 + pick(5)}; break;
            case "ofStep": with = new int[] {j, s, pick(6)}; break;
            case "ofJoiner": with = new int[] {j, pick(7)}; break;
            case "many": with = new int[] {pick(11)}; break;
            case "rightOn": with = new int[] {j, pick(m.rights.size() + 1)}; break;
            case "waitFor": with = new int[] {j, s}; break;
            default: with = new int[] {j}; break;
        }
        with = Arrays.copyOf(with, TAKES[name]);
        if (with.length > 0 && pick(25) == 0) {
            with[pick(with.length)] = WILD[pick(WILD.length)];
        }
        return with;
    }

    /** One of the last few numbers, now and then one that there is not. */
    private static int lately(int count) {
        return Math.max(0, count - pick(4)) - (pick(8) == 0 ? 0 : Math.min(1, count));
    }

    /** Nearly always a COURSE, if there is one. */
    private static int course(NaiveOffice m, int step) {
        for (int i = 0; i < m.steps.size() && pick(20) != 0; i++) {
            int number = (step + i) % m.steps.size();
            if (m.steps.get(number).kind == 2) {
                return number;
            }
        }
        return step;
    }

    private static int[] stepArguments(NaiveOffice m, int needs) {
        int kind = pick(4);
        int of = kind == 0 ? pick(256) : pick(4);
        return new int[] {kind, 1 + pick(pick(4) == 0 ? 9 : 3), needs, of};
    }

    private static long digest(NaiveOffice m) {
        long d = 58120;
        for (int what = 0; what <= 10; what++) {
            d = d * 31 + m.many(what);
        }
        for (int i = 0; i < 16; i++) {
            d = d * 31 + m.ofItem(i / 4, i % 4);
        }
        for (int i = 0; i < m.sessions.size() * 4; i++) {
            d = d * 31 + m.ofSession(i / 4, i % 4);
        }
        for (int j = 0; j < m.people.size(); j++) {
            for (int what = 0; what <= 6; what++) {
                d = d * 31 + m.ofJoiner(j, what);
            }
            d = d * 31 + m.next(j);
            for (int r = 0; r < m.rights.size(); r++) {
                d = d * 31 + m.rightOn(j, r);
            }
            for (NaiveOffice.Task task : m.people.get(j).tasks) {
                for (int what = 0; what <= 5; what++) {
                    d = d * 31 + m.ofStep(j, task.step.number, what);
                }
                d = d * 31 + m.waitFor(j, task.step.number);
            }
        }
        return d;
    }
}
