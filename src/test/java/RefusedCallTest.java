import java.util.ArrayList;
import java.util.HashMap;
import java.util.List;
import java.util.Map;

/**
 * Each call that is refused, in an empty, a busy and a full object: it throws just the exception that the document
 * names first of those that apply, and changes nothing, neither what is told nor what could be told from then on.
 */
public final class RefusedCallTest {
    private interface Call {
        void on(SlipwayPlan x);
    }

    private interface CallOfOne {
        void on(SlipwayPlan x, int number);
    }

    private interface CallOfTwo {
        void on(SlipwayPlan x, int number, int day);
    }

    private enum State { EMPTY, BUSY, FULL }

    private static final Class<IndexOutOfBoundsException> INDEX = IndexOutOfBoundsException.class;
    private static final Class<IllegalArgumentException> ARGUMENT = IllegalArgumentException.class;
    private static final Class<IllegalStateException> STATE = IllegalStateException.class;

    private static final Map<State, List<Long>> DUE = new HashMap<>();

    private RefusedCallTest() {
    }

    public static void main(String[] args) {
        for (State state : State.values()) {
            DUE.put(state, toldBy(state, null));
        }
        calendars();
        crews();
        addTask();
        tasksSet();
        link();
        linkThatComesBack();
        dropAndWithout();
        finish();
        setRule();
        askedOfTasks();
        askedOfCrews();
        askedOfDays();
        orderAt();
        whatWouldBe();
        Check.end();
    }

    // ---- the objects

    private static SlipwayPlan make(State state) {
        SlipwayPlan x = new SlipwayPlan();
        if (state == State.BUSY) {
            makeBusy(x);
        }
        if (state == State.FULL) {
            makeFull(x);
        }
        return x;
    }

    /** 5 tasks, 4 links, 2 free days in calendar 1, a plan that is kept; task 3 is done, task 4 is stuck. */
    private static void makeBusy(SlipwayPlan x) {
        x.setWeek(1, 127);
        x.setFree(1, 2, true);
        x.setFree(1, 6, true);
        for (int task = 0; task < 5; task++) {
            x.addTask(2 + task, task % 2);
            x.setNeed(task, task % 4, 2);
            x.setTerms(task, task + 1, 2 * task);
        }
        x.setCrew(0, 3, 11);
        x.setCrew(1, 2, 13);
        x.setCrew(2, 5, 17);
        x.setCrew(3, 4, 19);
        x.link(0, 1, 0, 1);
        x.link(1, 2, 1, 2);
        x.link(0, 2, 2, 3);
        x.link(3, 4, 0, 0);
        x.setRule(2);
        x.keep();
        x.finish(3, 3, 8);
        x.setNeed(4, 0, 4);
    }

    /** 24 tasks, 40 links, in calendar 1 each of the 12 days from 20 on is free. */
    private static void makeFull(SlipwayPlan x) {
        for (int day = 20; day < 32; day++) {
            x.setFree(1, day, true);
        }
        for (int task = 0; task < 24; task++) {
            x.addTask(task % 4, task % 4);
            x.setNeed(task, task % 4, 5);
        }
        for (int crew = 0; crew < 4; crew++) {
            x.setCrew(crew, 9, 7 + crew);
        }
        for (int number = 0; number < 40; number++) {
            x.link(number / 2, number / 2 + 1 + number % 3, number % 3, number % 21);
        }
        x.setRule(1);
        x.keep();
        x.finish(0, 1, 4);
    }

    // ---- what an object tells

    /** All that objects tell which were made so, a call refused by each of them; null for no such call. */
    private static List<Long> toldBy(State state, Call refused) {
        List<Long> told = new ArrayList<>();
        tellPlans(after(state, refused), told);
        tellSettings(after(state, refused), told);
        tellLinks(after(state, refused), told);
        tellFreeDaysLeft(after(state, refused), told);
        tellTasksLeft(after(state, refused), told);
        tellLinksLeft(after(state, refused), told);
        return told;
    }

    private static SlipwayPlan after(State state, Call refused) {
        SlipwayPlan x = make(state);
        if (refused != null) {
            refused.on(x);
        }
        return x;
    }

    private static void tellPlans(SlipwayPlan x, List<Long> told) {
        told.add(x.digest());
        for (int crew = 0; crew < 4; crew++) {
            for (int day = 0; day < 12; day++) {
                told.add((long) x.wanted(crew, day));
                told.add((long) x.used(crew, day));
            }
            told.add((long) x.levelledWith(crew, 5));
        }
        for (int day = 0; day < 30; day++) {
            told.add((long) x.planned(day));
        }
        for (int task = 0; task < x.tasks(); task++) {
            told.add((long) x.lastWith(task, 9));
            told.add((long) x.couldGrow(task));
        }
        told.add((long) x.bestRule());
    }

    private static void tellSettings(SlipwayPlan x, List<Long> told) {
        for (int calendar = 0; calendar < 4; calendar++) {
            told.add((long) x.setWeek(calendar, 127));
            for (int day = 0; day < 35; day++) {
                told.add(x.works(calendar, day) ? 1L : 0L);
            }
            told.add(x.works(calendar, 999) ? 1L : 0L);
        }
        for (int task = 0; task < x.tasks(); task++) {
            told.add((long) x.setLength(task, 1));
            told.add((long) x.setTerms(task, 0, 0));
            for (int crew = 0; crew < 4; crew++) {
                told.add((long) x.setNeed(task, crew, 1));
            }
            told.add(x.reopen(task) ? 1L : 0L);
        }
        for (int crew = 0; crew < 4; crew++) {
            told.add((long) x.setCrew(crew, 9, 0));
        }
        told.add((long) x.setRule(0));
    }

    /** The links are seen as they go, one by one. */
    private static void tellLinks(SlipwayPlan x, List<Long> told) {
        int links = x.links();
        for (int link = 0; link < links; link++) {
            told.add((long) x.levelledWithout(0));
            told.add((long) x.drop(0));
            told.add(x.digest());
        }
        told.add((long) x.setRule(2));
        told.add(x.digest());
    }

    private static void tellFreeDaysLeft(SlipwayPlan x, List<Long> told) {
        for (int calendar = 0; calendar < 4; calendar++) {
            int number = calendar;
            told.add(timesTaken(13, day -> x.setFree(number, 900 + day, true)));
        }
    }

    private static void tellTasksLeft(SlipwayPlan x, List<Long> told) {
        told.add(timesTaken(25, length -> x.addTask(length % 21, 0)));
    }

    private static void tellLinksLeft(SlipwayPlan x, List<Long> told) {
        if (x.tasks() > 1) {
            told.add(timesTaken(41, lag -> x.link(0, 1, 0, lag % 21)));
        }
    }

    private interface Numbered {
        void call(int number);
    }

    /** How often a call is taken, till it is refused; at most so often. */
    private static long timesTaken(int most, Numbered numbered) {
        for (int times = 0; times < most; times++) {
            try {
                numbered.call(times);
            } catch (IllegalStateException e) {
                return times;
            }
        }
        return most;
    }

    // ---- how a refused call is tested

    /** In an object that was just told something, and in one whose plans were asked ahead of the call. */
    private static void refused(State state, String what, Class<? extends RuntimeException> want, Call call) {
        String where = what + ", " + state;
        Check.holds(where + " changed something",
                toldBy(state, x -> Check.thrown(where, want, () -> call.on(x))).equals(DUE.get(state)));
        SlipwayPlan x = make(state);
        long before = x.digest();
        Check.thrown(where + ", asked", want, () -> call.on(x));
        Check.same(where + ", asked: digest", x.digest(), before);
    }

    private static int[] outside(int most) {
        return new int[] {-1, most + 1, Integer.MIN_VALUE, Integer.MAX_VALUE, most + 257};
    }

    private static int lastTask(State state) {
        return state == State.EMPTY ? -1 : state == State.BUSY ? 4 : 23;
    }

    private static int lastLink(State state) {
        return state == State.EMPTY ? -1 : state == State.BUSY ? 3 : 39;
    }

    // ---- what there is

    private static void calendars() {
        Check.part("promise 2, setWeek, refused");
        for (int calendar : outside(3)) {
            for (int weekdays : new int[] {31, 0, 128}) {
                refused(State.BUSY, "setWeek(" + calendar + ", " + weekdays + ")", INDEX,
                        x -> x.setWeek(calendar, weekdays));
            }
        }
        for (int weekdays : new int[] {0, 128, -1, 255, 1 + 256, Integer.MIN_VALUE, Integer.MAX_VALUE}) {
            refused(State.BUSY, "setWeek(3, " + weekdays + ")", ARGUMENT, x -> x.setWeek(3, weekdays));
            refused(State.FULL, "setWeek(0, " + weekdays + ")", ARGUMENT, x -> x.setWeek(0, weekdays));
        }
        Check.part("promise 3, setFree, refused");
        for (int calendar : outside(3)) {
            for (int day : new int[] {5, -1, 1000}) {
                refused(State.FULL, "setFree(" + calendar + ", " + day + ")", INDEX,
                        x -> x.setFree(calendar, day, true));
                refused(State.FULL, "setFree(" + calendar + ", " + day + "), not free", INDEX,
                        x -> x.setFree(calendar, day, false));
            }
        }
        for (int day : outside(999)) {
            refused(State.BUSY, "setFree(1, " + day + ")", ARGUMENT, x -> x.setFree(1, day, true));
            refused(State.FULL, "setFree(1, " + day + ")", ARGUMENT, x -> x.setFree(1, day, true));
            refused(State.FULL, "setFree(1, " + day + "), not free", ARGUMENT, x -> x.setFree(1, day, false));
        }
        for (int day : new int[] {0, 19, 32, 999}) {
            refused(State.FULL, "setFree(1, " + day + "), the 13th", STATE, x -> x.setFree(1, day, true));
        }
        Check.part("promise 16, works, refused");
        for (int calendar : outside(3)) {
            for (int day : new int[] {5, -1, 10000}) {
                refused(State.BUSY, "works(" + calendar + ", " + day + ")", INDEX, x -> x.works(calendar, day));
            }
        }
        for (int day : outside(9999)) {
            refused(State.BUSY, "works(1, " + day + ")", ARGUMENT, x -> x.works(1, day));
        }
    }

    private static void crews() {
        Check.part("promise 4, setCrew, refused");
        for (int crew : outside(3)) {
            refused(State.BUSY, "setCrew(" + crew + ", 5, 5)", INDEX, x -> x.setCrew(crew, 5, 5));
            refused(State.BUSY, "setCrew(" + crew + ", 10, 5)", INDEX, x -> x.setCrew(crew, 10, 5));
            refused(State.BUSY, "setCrew(" + crew + ", 5, 100)", INDEX, x -> x.setCrew(crew, 5, 100));
            refused(State.BUSY, "setCrew(" + crew + ", -1, -1)", INDEX, x -> x.setCrew(crew, -1, -1));
        }
        for (int size : outside(9)) {
            refused(State.BUSY, "setCrew(1, " + size + ", 5)", ARGUMENT, x -> x.setCrew(1, size, 5));
            refused(State.BUSY, "setCrew(1, " + size + ", 100)", ARGUMENT, x -> x.setCrew(1, size, 100));
        }
        for (int price : outside(99)) {
            refused(State.BUSY, "setCrew(1, 5, " + price + ")", ARGUMENT, x -> x.setCrew(1, 5, price));
        }
    }

    private static void addTask() {
        Check.part("promise 5, addTask, refused");
        for (State state : State.values()) {
            for (int calendar : outside(3)) {
                for (int length : new int[] {1, -1, 21}) {
                    refused(state, "addTask(" + length + ", " + calendar + ")", INDEX,
                            x -> x.addTask(length, calendar));
                }
            }
            for (int length : outside(20)) {
                refused(state, "addTask(" + length + ", 3)", ARGUMENT, x -> x.addTask(length, 3));
            }
        }
        for (int length : new int[] {0, 1, 20}) {
            refused(State.FULL, "addTask(" + length + ", 0), the 25th", STATE, x -> x.addTask(length, 0));
        }
    }

    private static void tasksSet() {
        for (State state : State.values()) {
            for (int task : outside(lastTask(state))) {
                Check.part("promise 6, setLength, refused");
                for (int length : new int[] {1, -1, 21}) {
                    refused(state, "setLength(" + task + ", " + length + ")", INDEX, x -> x.setLength(task, length));
                }
                Check.part("promise 7, setTerms, refused");
                refused(state, "setTerms(" + task + ", 1, 1)", INDEX, x -> x.setTerms(task, 1, 1));
                refused(state, "setTerms(" + task + ", 10, 1)", INDEX, x -> x.setTerms(task, 10, 1));
                refused(state, "setTerms(" + task + ", 1, 1000)", INDEX, x -> x.setTerms(task, 1, 1000));
                Check.part("promise 8, setNeed, refused");
                refused(state, "setNeed(" + task + ", 1, 1)", INDEX, x -> x.setNeed(task, 1, 1));
                refused(state, "setNeed(" + task + ", 4, 1)", INDEX, x -> x.setNeed(task, 4, 1));
                refused(state, "setNeed(" + task + ", 1, 10)", INDEX, x -> x.setNeed(task, 1, 10));
            }
        }
        Check.part("promise 6, setLength, refused");
        for (int length : outside(20)) {
            refused(State.BUSY, "setLength(4, " + length + ")", ARGUMENT, x -> x.setLength(4, length));
            refused(State.BUSY, "setLength(3, " + length + "), done", ARGUMENT, x -> x.setLength(3, length));
        }
        Check.part("promise 7, setTerms, refused");
        for (int rank : outside(9)) {
            refused(State.BUSY, "setTerms(0, " + rank + ", 1)", ARGUMENT, x -> x.setTerms(0, rank, 1));
            refused(State.BUSY, "setTerms(0, " + rank + ", 1000)", ARGUMENT, x -> x.setTerms(0, rank, 1000));
        }
        for (int first : outside(999)) {
            refused(State.BUSY, "setTerms(0, 9, " + first + ")", ARGUMENT, x -> x.setTerms(0, 9, first));
        }
        Check.part("promise 8, setNeed, refused");
        for (int crew : outside(3)) {
            refused(State.BUSY, "setNeed(0, " + crew + ", 1)", INDEX, x -> x.setNeed(0, crew, 1));
            refused(State.BUSY, "setNeed(0, " + crew + ", 10)", INDEX, x -> x.setNeed(0, crew, 10));
        }
        for (int needs : outside(9)) {
            refused(State.BUSY, "setNeed(0, 3, " + needs + ")", ARGUMENT, x -> x.setNeed(0, 3, needs));
        }
    }

    private static void link() {
        Check.part("promise 9, link, refused");
        for (State state : State.values()) {
            for (int task : outside(lastTask(state))) {
                for (int kind : new int[] {0, 3}) {
                    for (int lag : new int[] {0, 21}) {
                        String what = "link with " + task + ", kind " + kind + ", lag " + lag;
                        refused(state, what + ", from it", INDEX, x -> x.link(task, 0, kind, lag));
                        refused(state, what + ", to it", INDEX, x -> x.link(0, task, kind, lag));
                        refused(state, what + ", from and to it", INDEX, x -> x.link(task, task, kind, lag));
                    }
                }
            }
        }
        for (State state : new State[] {State.BUSY, State.FULL}) {
            for (int kind : outside(2)) {
                refused(state, "link(0, 1), kind " + kind, ARGUMENT, x -> x.link(0, 1, kind, 0));
                refused(state, "link(0, 1), kind " + kind + ", lag 21", ARGUMENT, x -> x.link(0, 1, kind, 21));
                refused(state, "link(1, 1), kind " + kind, ARGUMENT, x -> x.link(1, 1, kind, 0));
                refused(state, "link(2, 0), kind " + kind, ARGUMENT, x -> x.link(2, 0, kind, 0));
            }
            for (int lag : outside(20)) {
                refused(state, "link(0, 1), lag " + lag, ARGUMENT, x -> x.link(0, 1, 2, lag));
                refused(state, "link(1, 1), lag " + lag, ARGUMENT, x -> x.link(1, 1, 2, lag));
                refused(state, "link(2, 0), lag " + lag, ARGUMENT, x -> x.link(2, 0, 2, lag));
            }
        }
        for (int kind = 0; kind < 3; kind++) {
            int number = kind;
            refused(State.FULL, "the 41st link, kind " + kind, STATE, x -> x.link(0, 23, number, 20));
            refused(State.FULL, "the 41st link, to itself, kind " + kind, STATE, x -> x.link(9, 9, number, 0));
        }
    }

    private static void linkThatComesBack() {
        Check.part("promise 9, link, comes back");
        for (int kind = 0; kind < 3; kind++) {
            for (int lag : new int[] {0, 20}) {
                int number = kind;
                String which = ", kind " + kind + ", lag " + lag;
                for (int task = 0; task < 5; task++) {
                    int itself = task;
                    refused(State.BUSY, "link(" + task + ", " + task + ")" + which, STATE,
                            x -> x.link(itself, itself, number, lag));
                }
                refused(State.BUSY, "link(1, 0)" + which, STATE, x -> x.link(1, 0, number, lag));
                refused(State.BUSY, "link(2, 1)" + which, STATE, x -> x.link(2, 1, number, lag));
                refused(State.BUSY, "link(2, 0)" + which, STATE, x -> x.link(2, 0, number, lag));
                refused(State.BUSY, "link(4, 3), from a stuck one to a done one" + which, STATE,
                        x -> x.link(4, 3, number, lag));
            }
        }
    }

    private static void dropAndWithout() {
        for (State state : State.values()) {
            for (int link : outside(lastLink(state))) {
                Check.part("promise 10, drop, refused");
                refused(state, "drop(" + link + ")", INDEX, x -> x.drop(link));
                Check.part("promise 44, levelledWithout, refused");
                refused(state, "levelledWithout(" + link + ")", INDEX, x -> x.levelledWithout(link));
            }
        }
    }

    private static void finish() {
        int[][] wrong = {{-1, 5}, {5, -1}, {-1, -1}, {1000, 1000}, {1000, 5}, {5, 1000}, {0, 1000}, {5, 4}, {1, 0},
            {999, 998}, {999, 0}, {Integer.MIN_VALUE, 5}, {5, Integer.MIN_VALUE}, {5, Integer.MAX_VALUE},
            {Integer.MAX_VALUE, Integer.MAX_VALUE}, {Integer.MIN_VALUE, Integer.MAX_VALUE}};
        Check.part("promise 11, finish, refused");
        for (int[] days : wrong) {
            String what = ", " + days[0] + ", " + days[1] + ")";
            refused(State.BUSY, "finish(2" + what, ARGUMENT, x -> x.finish(2, days[0], days[1]));
            refused(State.BUSY, "finish(3" + what + ", done", ARGUMENT, x -> x.finish(3, days[0], days[1]));
            refused(State.BUSY, "finish(5" + what, INDEX, x -> x.finish(5, days[0], days[1]));
            refused(State.BUSY, "finish(-1" + what, INDEX, x -> x.finish(-1, days[0], days[1]));
        }
        for (State state : State.values()) {
            for (int task : outside(lastTask(state))) {
                Check.part("promise 11, finish, refused");
                refused(state, "finish(" + task + ", 0, 0)", INDEX, x -> x.finish(task, 0, 0));
                Check.part("promise 12, reopen, refused");
                refused(state, "reopen(" + task + ")", INDEX, x -> x.reopen(task));
            }
        }
    }

    private static void setRule() {
        Check.part("promise 13, setRule, refused");
        for (State state : State.values()) {
            for (int rule : outside(3)) {
                refused(state, "setRule(" + rule + ")", ARGUMENT, x -> x.setRule(rule));
            }
        }
    }

    // ---- what is asked

    private static void ofTask(String promise, CallOfOne call) {
        Check.part(promise + ", refused");
        for (State state : State.values()) {
            for (int task : outside(lastTask(state))) {
                refused(state, "of task " + task, INDEX, x -> call.on(x, task));
            }
        }
    }

    private static void askedOfTasks() {
        ofTask("promise 17, earlyBegin", (x, task) -> x.earlyBegin(task));
        ofTask("promise 18, earlyEnd", (x, task) -> x.earlyEnd(task));
        ofTask("promise 19, lateBegin", (x, task) -> x.lateBegin(task));
        ofTask("promise 20, lateEnd", (x, task) -> x.lateEnd(task));
        ofTask("promise 21, room", (x, task) -> x.room(task));
        ofTask("promise 26, begin", (x, task) -> x.begin(task));
        ofTask("promise 27, end", (x, task) -> x.end(task));
        ofTask("promise 33, holds", (x, task) -> x.holds(task));
        ofTask("promise 34, heldBy", (x, task) -> x.heldBy(task));
        ofTask("promise 37, behind", (x, task) -> x.behind(task));
        ofTask("promise 46, couldGrow", (x, task) -> x.couldGrow(task));
    }

    private static void ofCrew(String promise, CallOfOne call) {
        Check.part(promise + ", refused");
        for (int crew : outside(3)) {
            refused(State.BUSY, "of crew " + crew, INDEX, x -> call.on(x, crew));
            refused(State.EMPTY, "of crew " + crew, INDEX, x -> call.on(x, crew));
        }
    }

    private static void ofCrewAndDay(String promise, CallOfTwo call) {
        Check.part(promise + ", refused");
        for (int crew : outside(3)) {
            for (int day : new int[] {5, -1, 10000}) {
                refused(State.BUSY, "of crew " + crew + " on " + day, INDEX, x -> call.on(x, crew, day));
            }
        }
        for (int day : outside(9999)) {
            refused(State.BUSY, "of crew 3 on " + day, ARGUMENT, x -> call.on(x, 3, day));
            refused(State.EMPTY, "of crew 0 on " + day, ARGUMENT, x -> call.on(x, 0, day));
        }
    }

    private static void askedOfCrews() {
        ofCrew("promise 25, overloaded", (x, crew) -> x.overloaded(crew));
        ofCrew("promise 32, peak", (x, crew) -> x.peak(crew));
        ofCrew("promise 35, idle", (x, crew) -> x.idle(crew));
        ofCrewAndDay("promise 24, wanted", (x, crew, day) -> x.wanted(crew, day));
        ofCrewAndDay("promise 31, used", (x, crew, day) -> x.used(crew, day));
    }

    private static void askedOfDays() {
        for (State state : State.values()) {
            for (int day : outside(9999)) {
                Check.part("promise 38, planned, refused");
                refused(state, "planned(" + day + ")", ARGUMENT, x -> x.planned(day));
                Check.part("promise 41, pace, refused");
                refused(state, "pace(" + day + ")", ARGUMENT, x -> x.pace(day));
            }
        }
    }

    private static void orderAt() {
        Check.part("promise 30, orderAt, refused");
        for (State state : State.values()) {
            SlipwayPlan counted = make(state);
            for (int place : outside(counted.tasks() - counted.stuck() - 1)) {
                refused(state, "orderAt(" + place + ")", INDEX, x -> x.orderAt(place));
            }
        }
    }

    private static void whatWouldBe() {
        Check.part("promise 42, lastWith, refused");
        for (State state : State.values()) {
            for (int task : outside(lastTask(state))) {
                for (int length : new int[] {1, -1, 21}) {
                    refused(state, "lastWith(" + task + ", " + length + ")", INDEX, x -> x.lastWith(task, length));
                }
            }
        }
        for (int length : outside(20)) {
            refused(State.BUSY, "lastWith(0, " + length + ")", ARGUMENT, x -> x.lastWith(0, length));
            refused(State.BUSY, "lastWith(3, " + length + "), done", ARGUMENT, x -> x.lastWith(3, length));
        }
        Check.part("promise 43, levelledWith, refused");
        for (int crew : outside(3)) {
            for (int size : new int[] {1, -1, 10}) {
                refused(State.BUSY, "levelledWith(" + crew + ", " + size + ")", INDEX,
                        x -> x.levelledWith(crew, size));
            }
        }
        for (int size : outside(9)) {
            refused(State.BUSY, "levelledWith(3, " + size + ")", ARGUMENT, x -> x.levelledWith(3, size));
        }
    }
}
