import java.util.Random;

/** Long runs of calls, each answer and each exception compared with PlainPlan's; the seeds are fixed. */
public final class RandomRunsTest {
    private interface Ask {
        Object run();
    }

    private static final int RUNS = 700;
    private static final int CALLS = 200;

    private final Random random;
    private final SlipwayPlan real = new SlipwayPlan();
    private final PlainPlan plain = new PlainPlan();
    private final StringBuilder told = new StringBuilder();
    private final int span;

    private RandomRunsTest(long seed) {
        random = new Random(seed);
        span = seed % 5 == 0 ? 1000 : seed % 5 == 1 ? 60 : 12;
    }

    public static void main(String[] args) {
        for (int seed = 0; seed < RUNS; seed++) {
            Check.part("run " + seed);
            new RandomRunsTest(seed).run();
        }
        Check.part("the longest plan");
        longestPlan();
        Check.end();
    }

    private void run() {
        int first = random.nextInt(30);
        for (int call = 0; call < CALLS; call++) {
            boolean asks = call > first && random.nextInt(3) > 0;
            if (!(asks ? ask() : tell())) {
                return;
            }
        }
        compare("digest()", real::digest, plain::digest);
    }

    // ---- numbers: mostly such as are allowed

    private int upTo(int most) {
        if (random.nextInt(60) == 0) {
            return random.nextBoolean() ? -1 : most + 1;
        }
        return random.nextInt(most + 1);
    }

    private int task() {
        return upTo(Math.max(0, plain.tasks() - 1));
    }

    private int link() {
        return upTo(Math.max(0, plain.links() - 1));
    }

    private int day() {
        if (random.nextInt(40) == 0) {
            return random.nextBoolean() ? 999 : 1000;
        }
        return upTo(Math.min(999, span));
    }

    private int askedDay() {
        int which = random.nextInt(30);
        if (which == 0) {
            return 9999;
        }
        return which == 1 ? 10000 : upTo(span + 40);
    }

    private int hands() {
        return random.nextInt(12) == 0 ? upTo(9) : random.nextInt(4);
    }

    private int length() {
        return random.nextInt(6) == 0 ? upTo(20) : random.nextInt(6);
    }

    // ---- calls

    private boolean tell() {
        switch (random.nextInt(16)) {
            case 0: {
                int c = upTo(3);
                int w = random.nextInt(3) == 0 ? 1 << random.nextInt(8) : upTo(127);
                return compare("setWeek(" + c + ", " + w + ")", () -> real.setWeek(c, w), () -> plain.setWeek(c, w));
            }
            case 1: {
                int c = upTo(3);
                int d = day();
                boolean f = random.nextInt(4) > 0;
                return compare("setFree(" + c + ", " + d + ", " + f + ")", () -> real.setFree(c, d, f),
                        () -> plain.setFree(c, d, f));
            }
            case 2: {
                int c = upTo(3);
                int s = hands() + random.nextInt(2);
                int p = upTo(99);
                return compare("setCrew(" + c + ", " + s + ", " + p + ")", () -> real.setCrew(c, s, p),
                        () -> plain.setCrew(c, s, p));
            }
            case 3:
            case 4:
            case 5: {
                int l = length();
                int c = upTo(3);
                return compare("addTask(" + l + ", " + c + ")", () -> real.addTask(l, c), () -> plain.addTask(l, c));
            }
            case 6: {
                int t = task();
                int l = length();
                return compare("setLength(" + t + ", " + l + ")", () -> real.setLength(t, l),
                        () -> plain.setLength(t, l));
            }
            case 7: {
                int t = task();
                int r = upTo(9);
                int f = random.nextInt(3) == 0 ? 0 : day();
                return compare("setTerms(" + t + ", " + r + ", " + f + ")", () -> real.setTerms(t, r, f),
                        () -> plain.setTerms(t, r, f));
            }
            case 8:
            case 9: {
                int t = task();
                int c = upTo(3);
                int n = hands();
                return compare("setNeed(" + t + ", " + c + ", " + n + ")", () -> real.setNeed(t, c, n),
                        () -> plain.setNeed(t, c, n));
            }
            case 10:
            case 11:
            case 12: {
                int f = task();
                int t = task();
                int k = upTo(2);
                int l = random.nextInt(4) == 0 ? upTo(20) : random.nextInt(4);
                return compare("link(" + f + ", " + t + ", " + k + ", " + l + ")", () -> real.link(f, t, k, l),
                        () -> plain.link(f, t, k, l));
            }
            case 13: {
                int l = link();
                return random.nextBoolean() || compare("drop(" + l + ")", () -> real.drop(l), () -> plain.drop(l));
            }
            case 14: {
                int t = task();
                if (random.nextInt(3) == 0) {
                    return compare("reopen(" + t + ")", () -> real.reopen(t), () -> plain.reopen(t));
                }
                int b = day();
                int e = random.nextInt(3) == 0 ? day() : b + random.nextInt(6);
                return compare("finish(" + t + ", " + b + ", " + e + ")", () -> real.finish(t, b, e),
                        () -> plain.finish(t, b, e));
            }
            default: {
                int r = upTo(3);
                return compare("setRule(" + r + ")", () -> real.setRule(r), () -> plain.setRule(r));
            }
        }
    }

    private boolean ask() {
        int t = task();
        int c = upTo(3);
        int d = askedDay();
        int l = link();
        int s = hands();
        int n = length();
        switch (random.nextInt(34)) {
            case 0:
                return compare("tasks()", real::tasks, plain::tasks);
            case 1:
                return compare("links()", real::links, plain::links);
            case 2:
                return compare("works(" + c + ", " + d + ")", () -> real.works(c, d), () -> plain.works(c, d));
            case 3:
                return compare("earlyBegin(" + t + ")", () -> real.earlyBegin(t), () -> plain.earlyBegin(t));
            case 4:
                return compare("earlyEnd(" + t + ")", () -> real.earlyEnd(t), () -> plain.earlyEnd(t));
            case 5:
                return compare("lateBegin(" + t + ")", () -> real.lateBegin(t), () -> plain.lateBegin(t));
            case 6:
                return compare("lateEnd(" + t + ")", () -> real.lateEnd(t), () -> plain.lateEnd(t));
            case 7:
                return compare("room(" + t + ")", () -> real.room(t), () -> plain.room(t));
            case 8:
                return compare("last()", real::last, plain::last);
            case 9:
                return compare("tight()", real::tight, plain::tight);
            case 10:
                return compare("wanted(" + c + ", " + d + ")", () -> real.wanted(c, d), () -> plain.wanted(c, d));
            case 11:
                return compare("overloaded(" + c + ")", () -> real.overloaded(c), () -> plain.overloaded(c));
            case 12:
                return compare("begin(" + t + ")", () -> real.begin(t), () -> plain.begin(t));
            case 13:
                return compare("end(" + t + ")", () -> real.end(t), () -> plain.end(t));
            case 14:
                return compare("levelledLast()", real::levelledLast, plain::levelledLast);
            case 15:
                return compare("stuck()", real::stuck, plain::stuck);
            case 16:
                return compare("orderAt(" + t + ")", () -> real.orderAt(t), () -> plain.orderAt(t));
            case 17:
                return compare("used(" + c + ", " + d + ")", () -> real.used(c, d), () -> plain.used(c, d));
            case 18:
                return compare("peak(" + c + ")", () -> real.peak(c), () -> plain.peak(c));
            case 19:
                return compare("holds(" + t + ")", () -> real.holds(t), () -> plain.holds(t));
            case 20:
                return compare("heldBy(" + t + ")", () -> real.heldBy(t), () -> plain.heldBy(t));
            case 21:
                return compare("idle(" + c + ")", () -> real.idle(c), () -> plain.idle(c));
            case 22:
                return compare("keep()", real::keep, plain::keep);
            case 23:
                return compare("behind(" + t + ")", () -> real.behind(t), () -> plain.behind(t));
            case 24:
                return compare("planned(" + d + ")", () -> real.planned(d), () -> plain.planned(d));
            case 25:
                return compare("earned()", real::earned, plain::earned);
            case 26:
                return compare("worth()", real::worth, plain::worth);
            case 27:
                return compare("pace(" + d + ")", () -> real.pace(d), () -> plain.pace(d));
            case 28:
                return compare("lastWith(" + t + ", " + n + ")", () -> real.lastWith(t, n), () -> plain.lastWith(t, n));
            case 29:
                return compare("levelledWith(" + c + ", " + s + ")", () -> real.levelledWith(c, s),
                        () -> plain.levelledWith(c, s));
            case 30:
                return compare("levelledWithout(" + l + ")", () -> real.levelledWithout(l),
                        () -> plain.levelledWithout(l));
            case 31:
                return compare("bestRule()", real::bestRule, plain::bestRule);
            case 32:
                return compare("couldGrow(" + t + ")", () -> real.couldGrow(t), () -> plain.couldGrow(t));
            default:
                return compare("digest()", real::digest, plain::digest);
        }
    }

    /** Compares two answers; a run ends at the first wrong one, which is told with all calls ahead of it. */
    private boolean compare(String call, Ask ofReal, Ask ofPlain) {
        told.append(call).append("; ");
        String got = answer(ofReal);
        String want = answer(ofPlain);
        boolean same = got.equals(want);
        Check.holds(told + "answered " + got + ", due is " + want, same);
        return same;
    }

    private static String answer(Ask ask) {
        try {
            return String.valueOf(ask.run());
        } catch (RuntimeException e) {
            return "throws." + e.getClass().getSimpleName();
        }
    }

    /** 24 tasks behind one another, each as far behind as can be. */
    private static void longestPlan() {
        RandomRunsTest run = new RandomRunsTest(2);
        for (int c = 0; c < 4; c++) {
            int calendar = c;
            run.compare("setWeek", () -> run.real.setWeek(calendar, 1 << (calendar * 2)),
                    () -> run.plain.setWeek(calendar, 1 << (calendar * 2)));
        }
        for (int t = 0; t < 24; t++) {
            int task = t;
            run.compare("addTask", () -> run.real.addTask(20, task % 4), () -> run.plain.addTask(20, task % 4));
            run.compare("setTerms", () -> run.real.setTerms(task, 0, 999), () -> run.plain.setTerms(task, 0, 999));
            run.compare("setNeed", () -> run.real.setNeed(task, 3, 9), () -> run.plain.setNeed(task, 3, 9));
            if (task > 0) {
                run.compare("link", () -> run.real.link(task - 1, task, 0, 20),
                        () -> run.plain.link(task - 1, task, 0, 20));
            }
        }
        run.compare("digest()", run.real::digest, run.plain::digest);
        run.compare("keep()", run.real::keep, run.plain::keep);
        run.compare("bestRule()", run.real::bestRule, run.plain::bestRule);
        run.compare("used(3, 4600)", () -> run.real.used(3, 4600), () -> run.plain.used(3, 4600));
        for (int l = 22; l >= 0; l--) {
            int link = l;
            run.compare("levelledWithout", () -> run.real.levelledWithout(link),
                    () -> run.plain.levelledWithout(link));
            run.compare("drop", () -> run.real.drop(link), () -> run.plain.drop(link));
        }
        run.compare("digest()", run.real::digest, run.plain::digest);
        run.compare("idle(3)", () -> run.real.idle(3), () -> run.plain.idle(3));
        run.compare("planned(9999)", () -> run.real.planned(9999), () -> run.plain.planned(9999));
    }
}
