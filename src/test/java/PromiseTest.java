import java.util.function.Consumer;
import java.util.function.ToLongFunction;

/** For each promise: ordinary inputs, the edges that the document names, and wrong inputs; reckoned by hand. */
public final class PromiseTest {
    private static final long EMPTY = 5418896322166811991L;

    private PromiseTest() {
    }

    public static void main(String[] args) {
        whatThereIs();
        earlyAndLate();
        levelled();
        keptAndDone();
        whatWouldBe();
        Check.end();
    }

    private static void whatThereIs() {
        aNewObject();
        setWeek();
        setFree();
        setFreeAtMostTwelve();
        setCrew();
        addTask();
        setLength();
        setTerms();
        setNeed();
        link();
        linkComesBack();
        linkAtMostForty();
        drop();
        finish();
        finishBounds();
        reopen();
        setRule();
        tasksAndLinks();
        works();
    }

    private static void earlyAndLate() {
        earlyBegin();
        earlyBehindDone();
        earlyEnd();
        earlyTogether();
        lateBegin();
        lateBeginOfSeveralLinks();
        lateEnd();
        room();
        last();
        tight();
        wanted();
        overloaded();
    }

    private static void levelled() {
        begin();
        beginWaitsForCrews();
        end();
        levelledLast();
        stuck();
        stuckAndDone();
        orderAt();
        orderByRules();
        used();
        peak();
        holds();
        heldBy();
        heldByLinksToItAlone();
        heldByOverCalendars();
        idle();
    }

    private static void keptAndDone() {
        keep();
        behind();
        planned();
        plannedAsKept();
        earned();
        earnedOfKeptOnesAlone();
        worth();
        pace();
    }

    private static void whatWouldBe() {
        lastWith();
        levelledWith();
        levelledWithout();
        bestRule();
        bestRuleOfDifferentLasts();
        couldGrow();
        digest();
        changesNothing();
        aFullObject();
        asOfNow();
        asTheReadmeTells();
    }

    /** A plan of tasks with these lengths, all in calendar 0, on which one works each day. */
    private static SlipwayPlan daily(int... lengths) {
        SlipwayPlan x = new SlipwayPlan();
        x.setWeek(0, 127);
        for (int length : lengths) {
            x.addTask(length, 0);
        }
        return x;
    }

    /** Tasks of 2, 3 and 1 days: 1 and 2 want the one hand of crew 0, task 2 is ahead in nothing but its rank. */
    private static SlipwayPlan crowded() {
        SlipwayPlan x = daily(2, 3, 1);
        x.setCrew(0, 1, 5);
        for (int task = 0; task < 3; task++) {
            x.setNeed(task, 0, 1);
        }
        x.setTerms(2, 7, 0);
        return x;
    }

    // ---- what there is

    private static void aNewObject() {
        Check.part("promise 1, a new object");
        SlipwayPlan x = new SlipwayPlan();
        Check.same("tasks", x.tasks(), 0);
        Check.same("links", x.links(), 0);
        for (int calendar = 0; calendar < 4; calendar++) {
            for (int day = 0; day < 14; day++) {
                Check.same("works " + calendar + " " + day, x.works(calendar, day), day % 7 < 5);
            }
        }
        Check.same("digest", x.digest(), EMPTY);
        SlipwayPlan other = new SlipwayPlan();
        other.addTask(1, 0);
        other.setWeek(0, 1);
        Check.same("tasks beside another", x.tasks(), 0);
        Check.same("week beside another", x.setWeek(0, 3), 31);
    }

    private static void setWeek() {
        Check.part("promise 2, setWeek");
        SlipwayPlan x = new SlipwayPlan();
        x.addTask(2, 1);
        Check.same("set before", x.setWeek(1, 96), 31);
        Check.same("early begin", x.earlyBegin(0), 5);
        Check.same("early end", x.earlyEnd(0), 7);
        Check.same("works on 4", x.works(1, 4), false);
        Check.same("works on 5", x.works(1, 5), true);
        Check.same("another calendar", x.works(0, 5), false);
        Check.same("set before", x.setWeek(1, 127), 96);
        Check.same("set before", x.setWeek(1, 1), 127);
        Check.same("early end", x.earlyEnd(0), 8);
        Check.same("set before, 3", x.setWeek(3, 64), 31);
        Check.same("set before, 0", x.setWeek(0, 64), 31);
        Check.argument("no days", () -> x.setWeek(1, 0));
        Check.argument("128", () -> x.setWeek(1, 128));
        Check.argument("-1", () -> x.setWeek(1, -1));
        Check.index("calendar -1", () -> x.setWeek(-1, 5));
        Check.index("calendar 4", () -> x.setWeek(4, 5));
        Check.index("calendar 4 and no days", () -> x.setWeek(4, 0));
        Check.same("unchanged", x.setWeek(1, 1), 1);
    }

    private static void setFree() {
        Check.part("promise 3, setFree");
        SlipwayPlan x = new SlipwayPlan();
        x.addTask(2, 0);
        Check.same("was free", x.setFree(0, 0, true), false);
        Check.same("early begin", x.earlyBegin(0), 1);
        Check.same("is free", x.setFree(0, 0, true), true);
        Check.same("works", x.works(0, 0), false);
        Check.same("works on the next", x.works(0, 1), true);
        Check.same("works a week on", x.works(0, 7), true);
        Check.same("works in another calendar", x.works(1, 0), true);
        Check.same("taken back", x.setFree(0, 0, false), true);
        Check.same("taken back again", x.setFree(0, 0, false), false);
        Check.same("works", x.works(0, 0), true);
        Check.same("early begin", x.earlyBegin(0), 0);
        x.setWeek(3, 127);
        Check.same("day 999", x.setFree(3, 999, true), false);
        Check.same("works on 998", x.works(3, 998), true);
        Check.same("works on 999", x.works(3, 999), false);
        Check.same("works on 1000", x.works(3, 1000), true);
        Check.argument("day -1", () -> x.setFree(0, -1, true));
        Check.argument("day 1000", () -> x.setFree(0, 1000, true));
        Check.argument("day 1000, not free", () -> x.setFree(0, 1000, false));
        Check.index("calendar -1", () -> x.setFree(-1, 0, true));
        Check.index("calendar 4", () -> x.setFree(4, 0, true));
        Check.index("calendar 4, day 1000", () -> x.setFree(4, 1000, true));
    }

    private static void setFreeAtMostTwelve() {
        Check.part("promise 3, setFree, at most 12");
        SlipwayPlan x = new SlipwayPlan();
        for (int day = 0; day < 12; day++) {
            Check.same("free " + day, x.setFree(2, day, true), false);
        }
        Check.state("the 13th", () -> x.setFree(2, 20, true));
        Check.argument("the 13th, outside", () -> x.setFree(2, 1000, true));
        Check.same("works where it was refused", x.works(2, 22), true);
        Check.same("free again", x.setFree(2, 5, true), true);
        Check.same("not free again", x.setFree(2, 20, false), false);
        Check.same("another calendar", x.setFree(1, 20, true), false);
        Check.same("taken back", x.setFree(2, 5, false), true);
        Check.same("one for it", x.setFree(2, 21, true), false);
        Check.state("the 13th again", () -> x.setFree(2, 5, true));
        x.setWeek(2, 127);
        Check.same("a free day of a weekday that came later", x.works(2, 6), false);
        Check.same("one that was taken back", x.works(2, 5), true);
    }

    private static void setCrew() {
        Check.part("promise 4, setCrew");
        SlipwayPlan x = daily(2);
        x.setNeed(0, 1, 3);
        for (int crew = 0; crew < 4; crew++) {
            Check.same("size before", x.setCrew(crew, crew, 0), 9);
            Check.same("size before", x.setCrew(crew, 9, 0), crew);
        }
        Check.same("worth without a price", x.worth(), 0);
        x.setCrew(1, 0, 99);
        Check.same("worth", x.worth(), 2 * 3 * 99);
        Check.same("stuck", x.stuck(), 1);
        Check.argument("size -1", () -> x.setCrew(1, -1, 5));
        Check.argument("size 10", () -> x.setCrew(1, 10, 5));
        Check.argument("price -1", () -> x.setCrew(1, 5, -1));
        Check.argument("price 100", () -> x.setCrew(1, 5, 100));
        Check.index("crew -1", () -> x.setCrew(-1, 5, 5));
        Check.index("crew 4", () -> x.setCrew(4, 5, 5));
        Check.index("crew 4, size 10", () -> x.setCrew(4, 10, 100));
        Check.same("price unchanged", x.worth(), 2 * 3 * 99);
        Check.same("size unchanged", x.setCrew(1, 9, 99), 0);
        Check.same("stuck no more", x.stuck(), 0);
    }

    private static void addTask() {
        Check.part("promise 5, addTask");
        SlipwayPlan x = new SlipwayPlan();
        Check.argument("length -1", () -> x.addTask(-1, 0));
        Check.argument("length 21", () -> x.addTask(21, 0));
        Check.index("calendar -1", () -> x.addTask(1, -1));
        Check.index("calendar 4", () -> x.addTask(1, 4));
        Check.index("calendar 4, length 21", () -> x.addTask(21, 4));
        Check.same("no task", x.tasks(), 0);
        x.setWeek(3, 127);
        Check.same("number", x.addTask(20, 3), 0);
        Check.same("early end", x.earlyEnd(0), 20);
        Check.same("number", x.addTask(0, 0), 1);
        Check.same("early end", x.earlyEnd(1), 0);
        Check.same("length", x.setLength(0, 1), 20);
        Check.same("first", x.setTerms(1, 0, 0), 0);
        for (int crew = 0; crew < 4; crew++) {
            Check.same("needs", x.setNeed(0, crew, 0), 0);
        }
        Check.same("begin as of now", x.begin(0), 0);
        for (int task = 2; task < 24; task++) {
            Check.same("number", x.addTask(1, 0), task);
        }
        Check.state("the 25th", () -> x.addTask(1, 0));
        Check.argument("the 25th, length 21", () -> x.addTask(21, 0));
        Check.index("the 25th, calendar 4", () -> x.addTask(1, 4));
        Check.same("24 tasks", x.tasks(), 24);
    }

    private static void setLength() {
        Check.part("promise 6, setLength");
        SlipwayPlan x = new SlipwayPlan();
        Check.index("no task", () -> x.setLength(0, 1));
        x.addTask(3, 0);
        Check.same("before", x.setLength(0, 6), 3);
        Check.same("early end", x.earlyEnd(0), 8);
        Check.same("before", x.setLength(0, 0), 6);
        Check.same("early end", x.earlyEnd(0), 0);
        Check.same("before", x.setLength(0, 20), 0);
        Check.argument("-1", () -> x.setLength(0, -1));
        Check.argument("21", () -> x.setLength(0, 21));
        Check.index("task -1", () -> x.setLength(-1, 1));
        Check.index("task 1", () -> x.setLength(1, 1));
        Check.index("task 1, length 21", () -> x.setLength(1, 21));
        Check.same("unchanged", x.setLength(0, 1), 20);
    }

    private static void setTerms() {
        Check.part("promise 7, setTerms");
        SlipwayPlan x = daily(1, 1);
        Check.same("first before", x.setTerms(0, 9, 10), 0);
        Check.same("early begin", x.earlyBegin(0), 10);
        Check.same("first before", x.setTerms(0, 0, 999), 10);
        Check.same("early begin", x.earlyBegin(0), 999);
        x.setRule(2);
        Check.same("order without ranks", x.orderAt(0), 0);
        x.setTerms(1, 1, 5);
        Check.same("order by ranks", x.orderAt(0), 1);
        Check.argument("rank -1", () -> x.setTerms(0, -1, 0));
        Check.argument("rank 10", () -> x.setTerms(0, 10, 0));
        Check.argument("first -1", () -> x.setTerms(0, 0, -1));
        Check.argument("first 1000", () -> x.setTerms(0, 9, 1000));
        Check.same("rank unchanged", x.orderAt(0), 1);
        Check.index("task -1", () -> x.setTerms(-1, 0, 0));
        Check.index("task 2", () -> x.setTerms(2, 0, 0));
        Check.index("task 2, rank 10", () -> x.setTerms(2, 10, 1000));
        Check.same("unchanged", x.setTerms(0, 0, 0), 999);
    }

    private static void setNeed() {
        Check.part("promise 8, setNeed");
        SlipwayPlan x = daily(2, 1);
        Check.same("before", x.setNeed(0, 3, 9), 0);
        Check.same("wanted", x.wanted(3, 1), 9);
        Check.same("wanted of another", x.wanted(2, 1), 0);
        Check.same("before", x.setNeed(0, 3, 2), 9);
        Check.same("before, of the other task", x.setNeed(1, 3, 0), 0);
        Check.argument("-1", () -> x.setNeed(0, 3, -1));
        Check.argument("10", () -> x.setNeed(0, 3, 10));
        Check.index("task -1", () -> x.setNeed(-1, 3, 1));
        Check.index("task 2", () -> x.setNeed(2, 3, 1));
        Check.index("crew -1", () -> x.setNeed(0, -1, 1));
        Check.index("crew 4", () -> x.setNeed(0, 4, 1));
        Check.index("crew 4, 10", () -> x.setNeed(0, 4, 10));
        Check.index("task 2, 10", () -> x.setNeed(2, 0, 10));
        Check.same("unchanged", x.setNeed(0, 3, 0), 2);
        Check.same("wanted no more", x.wanted(3, 1), 0);
    }

    private static void link() {
        Check.part("promise 9, link");
        SlipwayPlan x = daily(4, 2, 2, 3);
        Check.same("number", x.link(0, 1, 0, 1), 0);
        Check.same("behind", x.earlyBegin(1), 5);
        Check.same("number", x.link(0, 2, 1, 1), 1);
        Check.same("beside", x.earlyBegin(2), 1);
        Check.same("number", x.link(0, 3, 2, 20), 2);
        Check.same("together", x.earlyEnd(3), 24);
        Check.same("together", x.earlyBegin(3), 21);
        Check.same("the same once more", x.link(0, 1, 0, 1), 3);
        Check.same("lag 0", x.link(1, 2, 0, 0), 4);
        Check.same("behind, too", x.earlyBegin(2), 7);
        Check.index("from -1", () -> x.link(-1, 1, 0, 0));
        Check.index("from 4", () -> x.link(4, 1, 0, 0));
        Check.index("to -1", () -> x.link(0, -1, 0, 0));
        Check.index("to 4", () -> x.link(0, 4, 0, 0));
        Check.index("to 4, kind 3", () -> x.link(0, 4, 3, 0));
        Check.argument("kind -1", () -> x.link(0, 1, -1, 0));
        Check.argument("kind 3", () -> x.link(0, 1, 3, 0));
        Check.argument("lag -1", () -> x.link(0, 1, 0, -1));
        Check.argument("lag 21", () -> x.link(0, 1, 0, 21));
        Check.same("links", x.links(), 5);
    }

    private static void linkComesBack() {
        Check.part("promise 9, link, comes back");
        SlipwayPlan x = daily(1, 1, 1, 1);
        Check.state("to itself", () -> x.link(0, 0, 0, 0));
        Check.argument("to itself, kind 3", () -> x.link(0, 0, 3, 0));
        Check.argument("to itself, lag 21", () -> x.link(0, 0, 0, 21));
        x.link(3, 1, 0, 0);
        x.link(1, 0, 1, 0);
        x.link(0, 2, 2, 0);
        Check.state("over three", () -> x.link(2, 3, 0, 0));
        Check.state("over two", () -> x.link(2, 1, 1, 0));
        Check.state("over one", () -> x.link(2, 0, 2, 0));
        Check.argument("over one, lag 21", () -> x.link(2, 0, 2, 21));
        Check.same("links", x.links(), 3);
        Check.same("along, over two", x.link(3, 2, 0, 0), 3);
        Check.same("early begin", x.earlyBegin(2), 1);
        x.finish(0, 0, 1);
        Check.state("over one that is done", () -> x.link(2, 3, 0, 0));
        Check.state("back over two", () -> x.link(0, 3, 0, 0));
        x.drop(1);
        Check.same("not back any more", x.link(0, 3, 0, 4), 3);
    }

    private static void linkAtMostForty() {
        Check.part("promise 9, link, at most 40");
        SlipwayPlan x = daily(1, 1);
        for (int number = 0; number < 40; number++) {
            Check.same("number", x.link(0, 1, number % 3, number % 21), number);
        }
        Check.state("the 41st", () -> x.link(0, 1, 0, 0));
        Check.argument("the 41st, kind 3", () -> x.link(0, 1, 3, 0));
        Check.index("the 41st, to 2", () -> x.link(0, 2, 0, 0));
        Check.same("links", x.links(), 40);
        Check.same("links less one", x.drop(39), 39);
        Check.same("number", x.link(0, 1, 0, 0), 39);
    }

    private static void drop() {
        Check.part("promise 10, drop");
        SlipwayPlan x = daily(2, 1, 1, 1);
        Check.index("without links", () -> x.drop(0));
        x.link(0, 1, 0, 0);
        x.link(0, 2, 0, 3);
        x.link(0, 3, 0, 7);
        Check.same("held by", x.heldBy(3), 2);
        Check.index("link -1", () -> x.drop(-1));
        Check.index("link 3", () -> x.drop(3));
        Check.same("links then", x.drop(0), 2);
        Check.same("links", x.links(), 2);
        Check.same("begin of what was linked", x.begin(1), 0);
        Check.same("held by one less", x.heldBy(3), 1);
        Check.same("held by one less", x.heldBy(2), 0);
        Check.index("link 2 now", () -> x.drop(2));
        Check.same("the last one", x.drop(1), 1);
        Check.same("begin", x.begin(3), 0);
        Check.same("begin of the other", x.begin(2), 5);
        Check.same("a new one", x.link(1, 0, 0, 0), 1);
        Check.same("links then", x.drop(0), 1);
        Check.same("begin by the new one", x.begin(0), 1);
    }

    private static void finish() {
        Check.part("promise 11, finish");
        SlipwayPlan x = new SlipwayPlan();
        x.addTask(3, 0);
        x.addTask(1, 0);
        x.link(0, 1, 0, 0);
        x.setTerms(0, 0, 20);
        Check.same("was done", x.finish(0, 5, 9), false);
        Check.same("early begin", x.earlyBegin(0), 5);
        Check.same("early end", x.earlyEnd(0), 9);
        Check.same("late begin", x.lateBegin(0), 5);
        Check.same("late end", x.lateEnd(0), 9);
        Check.same("begin", x.begin(0), 5);
        Check.same("end", x.end(0), 9);
        Check.same("what is behind it", x.earlyBegin(1), 9);
        Check.same("done otherwise", x.finish(0, 1, 1), true);
        Check.same("early end", x.earlyEnd(0), 1);
        Check.same("what is behind it", x.begin(1), 1);
        Check.same("a link to one that is done", x.finish(1, 0, 0), false);
        Check.same("asks nothing of it", x.begin(1), 0);
        Check.same("late", x.lateEnd(1), 0);
    }

    private static void finishBounds() {
        Check.part("promise 11, finish, its bounds");
        SlipwayPlan x = daily(3);
        Check.argument("begin -1", () -> x.finish(0, -1, 5));
        Check.argument("begin 1000", () -> x.finish(0, 1000, 1000));
        Check.argument("end 1000", () -> x.finish(0, 5, 1000));
        Check.argument("end -1", () -> x.finish(0, 0, -1));
        Check.argument("end ahead of begin", () -> x.finish(0, 5, 4));
        Check.index("task -1", () -> x.finish(-1, 0, 0));
        Check.index("task 1", () -> x.finish(1, 0, 0));
        Check.index("task 1, end ahead of begin", () -> x.finish(1, 5, 4));
        Check.same("end unchanged", x.earlyEnd(0), 3);
        Check.same("at the edges", x.finish(0, 0, 999), false);
        Check.same("last", x.last(), 999);
        Check.same("at the edge", x.finish(0, 999, 999), true);
        Check.argument("outside, of one that is done", () -> x.finish(0, 5, 4));
        Check.same("begin unchanged", x.begin(0), 999);
    }

    private static void reopen() {
        Check.part("promise 12, reopen");
        SlipwayPlan x = daily(3);
        Check.same("was not done", x.reopen(0), false);
        x.finish(0, 10, 11);
        Check.same("was done", x.reopen(0), true);
        Check.same("early begin", x.earlyBegin(0), 0);
        Check.same("end", x.end(0), 3);
        Check.same("tight again", x.tight(), 1);
        Check.same("not any more", x.reopen(0), false);
        Check.index("task -1", () -> x.reopen(-1));
        Check.index("task 1", () -> x.reopen(1));
    }

    private static void setRule() {
        Check.part("promise 13, setRule");
        SlipwayPlan x = crowded();
        Check.same("at first", x.setRule(2), 0);
        Check.same("the greatest rank", x.orderAt(0), 2);
        Check.same("before", x.setRule(3), 2);
        Check.same("the greatest length", x.orderAt(0), 1);
        Check.argument("-1", () -> x.setRule(-1));
        Check.argument("4", () -> x.setRule(4));
        Check.same("unchanged", x.setRule(0), 3);
        Check.same("before", x.setRule(1), 0);
    }

    private static void tasksAndLinks() {
        Check.part("promise 14, tasks");
        SlipwayPlan x = daily(1, 2, 3);
        Check.same("tasks", x.tasks(), 3);
        x.finish(1, 0, 1);
        Check.same("tasks, one of them done", x.tasks(), 3);
        Check.part("promise 15, links");
        Check.same("links", x.links(), 0);
        x.link(0, 1, 0, 0);
        x.link(0, 2, 0, 0);
        Check.same("links", x.links(), 2);
        x.drop(0);
        Check.same("links", x.links(), 1);
    }

    private static void works() {
        Check.part("promise 16, works");
        SlipwayPlan x = new SlipwayPlan();
        x.setWeek(2, 64 + 8);
        for (int day = 0; day < 30; day++) {
            Check.same("works on " + day, x.works(2, day), day % 7 == 6 || day % 7 == 3);
        }
        x.setFree(2, 6, true);
        Check.same("on a free day", x.works(2, 6), false);
        Check.same("on 9999", x.works(2, 9999), 9999 % 7 == 3 || 9999 % 7 == 6);
        Check.same("on 9999, another", x.works(1, 9999), 9999 % 7 < 5);
        Check.same("on 1000", x.works(0, 1000), 1000 % 7 < 5);
        Check.argument("day -1", () -> x.works(0, -1));
        Check.argument("day 10000", () -> x.works(0, 10000));
        Check.index("calendar -1", () -> x.works(-1, 0));
        Check.index("calendar 4", () -> x.works(4, 0));
        Check.index("calendar 4, day -1", () -> x.works(4, -1));
    }

    // ---- early and late

    private static void earlyBegin() {
        Check.part("promise 17, earlyBegin");
        SlipwayPlan x = new SlipwayPlan();
        x.addTask(2, 0);
        x.addTask(0, 0);
        x.setTerms(0, 0, 5);
        x.setTerms(1, 0, 5);
        Check.same("on the first day worked on", x.earlyBegin(0), 7);
        Check.same("without a length on any day", x.earlyBegin(1), 5);
        x.link(0, 1, 0, 3);
        Check.same("behind", x.earlyBegin(1), 12);
        x.addTask(1, 0);
        x.link(1, 2, 1, 1);
        Check.same("beside", x.earlyBegin(2), 14);
        x.setCrew(0, 0, 0);
        x.setNeed(0, 0, 5);
        Check.same("crews ask nothing of it", x.earlyBegin(2), 14);
        Check.index("task -1", () -> x.earlyBegin(-1));
        Check.index("task 3", () -> x.earlyBegin(3));
    }

    private static void earlyBehindDone() {
        Check.part("promise 17, earlyBegin, behind one that is done");
        SlipwayPlan x = daily(5, 1, 1, 3);
        x.link(0, 1, 0, 2);
        x.link(0, 2, 1, 2);
        x.link(0, 3, 2, 2);
        x.finish(0, 4, 13);
        Check.same("behind", x.earlyBegin(1), 15);
        Check.same("beside", x.earlyBegin(2), 6);
        Check.same("together", x.earlyBegin(3), 12);
        Check.same("its own", x.earlyBegin(0), 4);
    }

    private static void earlyEnd() {
        Check.part("promise 18, earlyEnd");
        SlipwayPlan x = new SlipwayPlan();
        x.addTask(6, 0);
        Check.same("over days not worked on", x.earlyEnd(0), 8);
        x.setLength(0, 5);
        Check.same("right behind the last one", x.earlyEnd(0), 5);
        x.setFree(0, 2, true);
        Check.same("over a free day", x.earlyEnd(0), 8);
        x.setLength(0, 0);
        Check.same("without a length", x.earlyEnd(0), 0);
        x.finish(0, 3, 6);
        Check.same("its own", x.earlyEnd(0), 6);
        Check.index("task -1", () -> x.earlyEnd(-1));
        Check.index("task 1", () -> x.earlyEnd(1));
    }

    private static void earlyTogether() {
        Check.part("promise 18, earlyEnd, together");
        SlipwayPlan x = new SlipwayPlan();
        x.addTask(5, 0);
        x.addTask(2, 0);
        x.addTask(0, 0);
        x.addTask(3, 1);
        x.link(0, 1, 2, 1);
        Check.same("no end on day 6: over the week's end", x.earlyBegin(1), 4);
        Check.same("not ahead of 6", x.earlyEnd(1), 8);
        x.link(0, 2, 2, 1);
        Check.same("without a length just on it", x.earlyEnd(2), 6);
        x.setWeek(1, 127);
        x.link(0, 3, 2, 0);
        Check.same("just on it", x.earlyEnd(3), 5);
        Check.same("and begins", x.earlyBegin(3), 2);
        x.setTerms(3, 0, 4);
        Check.same("first day is later", x.earlyEnd(3), 7);
        x.setTerms(3, 0, 0);
        x.setLength(3, 5);
        Check.same("long enough to begin at once", x.earlyBegin(3), 0);
        SlipwayPlan y = daily(0, 0, 0);
        y.link(0, 1, 0, 0);
        y.link(1, 2, 1, 0);
        Check.same("without lengths all at once", y.earlyEnd(1), 0);
        Check.same("without lengths all at once", y.earlyEnd(2), 0);
    }

    private static void lateBegin() {
        Check.part("promise 19, lateBegin");
        SlipwayPlan x = daily(10, 2, 3, 2, 2, 0);
        x.link(1, 2, 0, 1);
        x.link(3, 2, 1, 2);
        x.link(4, 2, 2, 1);
        Check.same("of the longest", x.lateBegin(0), 0);
        Check.same("of one with nothing behind it", x.lateBegin(2), 7);
        Check.same("behind", x.lateBegin(1), 4);
        Check.same("beside", x.lateBegin(3), 5);
        Check.same("together", x.lateBegin(4), 7);
        Check.same("without a length on the last day", x.lateBegin(5), 10);
        x.link(5, 2, 1, 1);
        Check.same("without a length, beside", x.lateBegin(5), 6);
        x.setTerms(5, 0, 4);
        x.drop(3);
        x.link(5, 2, 2, 1);
        Check.same("without a length, together", x.lateBegin(5), 9);
        x.drop(3);
        x.setWeek(1, 31);
        x.addTask(1, 1);
        Check.same("on a day worked on", x.lateBegin(6), 9);
        x.setFree(1, 9, true);
        Check.same("not on a free day", x.lateBegin(6), 8);
        x.finish(2, 3, 4);
        Check.same("of one that is done its own", x.lateBegin(2), 3);
        Check.same("links to one that is done ask nothing", x.lateBegin(1), 8);
        x.setFree(1, 8, true);
        Check.same("over the week's end", x.lateBegin(6), 7);
        x.setFree(1, 7, true);
        Check.same("over the week's end", x.lateBegin(6), 4);
        Check.index("task -1", () -> x.lateBegin(-1));
        Check.index("task 7", () -> x.lateBegin(7));
    }

    /** Task 0, of 2 days, is ahead of task 1, which begins on 6 at the latest, and of task 2, which does on 9. */
    private static void lateBeginOfSeveralLinks() {
        Check.part("promise 19, lateBegin, of several links");
        int[] strictFirst = {1, 2};
        int[] strictLast = {2, 1};
        for (int[] goals : new int[][] {strictFirst, strictLast}) {
            int[] due = {4, 6, 6};
            for (int kind = 0; kind < 3; kind++) {
                SlipwayPlan x = daily(2, 4, 1, 10);
                for (int goal : goals) {
                    // both end on 10 at the latest, so that it is the lag that tells them apart
                    x.link(0, goal, kind, kind == 2 && goal == 1 ? 2 : 0);
                }
                Check.same("late begin of task 1", x.lateBegin(1), 6);
                Check.same("late begin of task 2", x.lateBegin(2), 9);
                Check.same("kind " + kind + ", first to " + goals[0], x.lateBegin(0), due[kind]);
            }
        }
    }

    private static void lateEnd() {
        Check.part("promise 20, lateEnd");
        SlipwayPlan x = new SlipwayPlan();
        x.addTask(6, 0);
        x.addTask(2, 0);
        x.addTask(0, 0);
        Check.same("of the longest", x.lateEnd(0), 8);
        Check.same("of a shorter one", x.lateEnd(1), 8);
        Check.same("its begin is ahead of the week's end", x.lateBegin(1), 4);
        Check.same("without a length", x.lateEnd(2), 8);
        x.finish(0, 0, 6);
        Check.same("of one that is done its own", x.lateEnd(0), 6);
        Check.same("not behind the last day", x.lateEnd(1), 5);
        Check.same("without a length on a day not worked on", x.lateEnd(2), 6);
        Check.index("task -1", () -> x.lateEnd(-1));
        Check.index("task 3", () -> x.lateEnd(3));
    }

    private static void room() {
        Check.part("promise 21, room");
        SlipwayPlan x = new SlipwayPlan();
        x.addTask(11, 0);
        x.addTask(2, 0);
        x.addTask(0, 0);
        Check.same("of the longest", x.room(0), 0);
        Check.same("counts days worked on", x.room(1), 9);
        Check.same("without a length each day", x.room(2), 15);
        x.setFree(0, 3, true);
        Check.same("and one day more is needed", x.room(2), 16);
        Check.same("but no free ones", x.room(1), 9);
        x.finish(1, 0, 1);
        Check.same("of one that is done", x.room(1), 0);
        Check.index("task -1", () -> x.room(-1));
        Check.index("task 3", () -> x.room(3));
    }

    private static void last() {
        Check.part("promise 22, last");
        SlipwayPlan x = new SlipwayPlan();
        Check.same("without any", x.last(), 0);
        x.setWeek(0, 127);
        x.addTask(5, 0);
        x.addTask(2, 0);
        Check.same("the greatest end", x.last(), 5);
        x.setTerms(1, 0, 8);
        Check.same("by a first day", x.last(), 10);
        x.finish(1, 0, 30);
        Check.same("by one that is done", x.last(), 30);
        x.finish(1, 0, 3);
        Check.same("not by what was", x.last(), 5);
    }

    private static void tight() {
        Check.part("promise 23, tight");
        SlipwayPlan x = daily(5, 2, 3, 0);
        Check.same("the longest", x.tight(), 1);
        x.link(1, 2, 0, 0);
        Check.same("the way along links, too", x.tight(), 3);
        x.finish(0, 0, 5);
        Check.same("none that is done", x.tight(), 2);
        x.link(2, 3, 0, 0);
        Check.same("without a length", x.tight(), 3);
        Check.same("without any", new SlipwayPlan().tight(), 0);
    }

    private static void wanted() {
        Check.part("promise 24, wanted");
        SlipwayPlan x = new SlipwayPlan();
        x.addTask(6, 0);
        x.addTask(2, 0);
        x.addTask(0, 0);
        x.setNeed(0, 2, 9);
        x.setNeed(1, 2, 4);
        x.setNeed(2, 2, 5);
        x.setCrew(2, 9, 0);
        int[] due = {13, 13, 9, 9, 9, 0, 0, 9, 0};
        for (int day = 0; day < due.length; day++) {
            Check.same("wanted on " + day, x.wanted(2, day), due[day]);
        }
        Check.same("of another crew", x.wanted(1, 0), 0);
        x.finish(1, 3, 8);
        int[] then = {9, 9, 9, 13, 13, 0, 0, 13, 0};
        for (int day = 0; day < then.length; day++) {
            Check.same("with one that is done, on " + day, x.wanted(2, day), then[day]);
        }
        for (int day = 4990; day < 5010; day++) {
            Check.same("behind all plans", x.wanted(2, day), 0);
        }
        Check.same("on 9999", x.wanted(2, 9999), 0);
        Check.argument("day -1", () -> x.wanted(0, -1));
        Check.argument("day 10000", () -> x.wanted(0, 10000));
        Check.index("crew -1", () -> x.wanted(-1, 0));
        Check.index("crew 4", () -> x.wanted(4, 0));
        Check.index("crew 4, day -1", () -> x.wanted(4, -1));
    }

    private static void overloaded() {
        Check.part("promise 25, overloaded");
        SlipwayPlan x = daily(4, 2, 1);
        x.setNeed(0, 0, 2);
        x.setNeed(1, 0, 2);
        x.setNeed(2, 0, 1);
        x.setCrew(0, 4, 0);
        Check.same("more than 4", x.overloaded(0), 1);
        x.setCrew(0, 5, 0);
        Check.same("more than 5", x.overloaded(0), 0);
        x.setCrew(0, 3, 0);
        Check.same("more than 3", x.overloaded(0), 2);
        x.setCrew(0, 0, 0);
        Check.same("more than none", x.overloaded(0), 4);
        Check.same("another", x.overloaded(1), 0);
        x.finish(2, 2, 9);
        Check.same("by one that is done, too", x.overloaded(0), 9);
        Check.index("crew -1", () -> x.overloaded(-1));
        Check.index("crew 4", () -> x.overloaded(4));
    }

    // ---- levelled

    private static void begin() {
        Check.part("promise 26, begin");
        SlipwayPlan x = crowded();
        Check.same("the least late begin", x.begin(1), 0);
        Check.same("then", x.begin(0), 3);
        Check.same("then", x.begin(2), 5);
        x.setRule(2);
        Check.same("the greatest rank", x.begin(2), 0);
        Check.same("then", x.begin(0), 1);
        Check.same("then", x.begin(1), 3);
        x.setNeed(0, 0, 2);
        Check.same("one that is stuck", x.begin(0), -1);
        Check.same("the next one", x.begin(1), 1);
        x.finish(0, 0, 4);
        Check.same("one that is done", x.begin(0), 0);
        Check.same("when it uses more than there are", x.begin(2), 4);
        Check.index("task -1", () -> x.begin(-1));
        Check.index("task 3", () -> x.begin(3));
    }

    private static void beginWaitsForCrews() {
        Check.part("promise 26, begin, waits for crews");
        SlipwayPlan x = daily(3, 2, 0);
        x.addTask(2, 1);
        x.setCrew(0, 2, 0);
        x.setNeed(0, 0, 1);
        x.setNeed(1, 0, 2);
        x.setNeed(2, 0, 9);
        x.setNeed(3, 1, 9);
        x.finish(0, 2, 4);
        Check.same("fits ahead of it", x.begin(1), 0);
        x.setTerms(1, 0, 1);
        Check.same("does not fit any more", x.begin(1), 4);
        x.setNeed(1, 0, 1);
        Check.same("fits beside it", x.begin(1), 1);
        Check.same("without a length needs none", x.begin(2), 0);
        x.setTerms(3, 0, 5);
        x.setNeed(3, 0, 0);
        x.finish(0, 5, 8);
        x.setNeed(0, 0, 9);
        Check.same("of which it needs none", x.begin(3), 7);
        x.setNeed(3, 0, 2);
        Check.same("worked on over the week's end", x.begin(3), 8);
        x.setTerms(3, 0, 4);
        Check.same("not on the days between", x.begin(3), 8);
        x.finish(0, 5, 7);
        Check.same("by its calendar it could", x.begin(3), 4);
    }

    private static void end() {
        Check.part("promise 27, end");
        SlipwayPlan x = crowded();
        Check.same("end", x.end(1), 3);
        Check.same("end", x.end(0), 5);
        Check.same("end", x.end(2), 6);
        x.setWeek(0, 31);
        Check.same("over the week's end", x.end(2), 8);
        x.setNeed(0, 0, 2);
        Check.same("one that is stuck", x.end(0), -1);
        x.finish(0, 7, 30);
        Check.same("one that is done", x.end(0), 30);
        Check.index("task -1", () -> x.end(-1));
        Check.index("task 3", () -> x.end(3));
    }

    private static void levelledLast() {
        Check.part("promise 28, levelledLast");
        Check.same("without any", new SlipwayPlan().levelledLast(), 0);
        SlipwayPlan x = crowded();
        Check.same("the greatest end", x.levelledLast(), 6);
        Check.same("early is less", x.last(), 3);
        x.setNeed(1, 0, 2);
        Check.same("without one that is stuck", x.levelledLast(), 3);
        x.setCrew(0, 0, 0);
        Check.same("all stuck", x.levelledLast(), 0);
        x.finish(1, 0, 40);
        Check.same("one that is done", x.levelledLast(), 40);
    }

    private static void stuck() {
        Check.part("promise 29, stuck");
        SlipwayPlan x = daily(2, 1, 0, 1, 1);
        x.setCrew(3, 4, 0);
        x.setNeed(0, 3, 4);
        Check.same("none", x.stuck(), 0);
        x.setNeed(0, 3, 5);
        Check.same("one", x.stuck(), 1);
        x.link(0, 1, 2, 0);
        x.link(1, 2, 1, 0);
        Check.same("what links go to", x.stuck(), 3);
        x.link(2, 3, 0, 0);
        x.link(4, 3, 0, 0);
        Check.same("also from others", x.stuck(), 4);
        Check.same("its begin", x.begin(3), -1);
        x.setLength(0, 0);
        Check.same("without a length", x.stuck(), 0);
    }

    private static void stuckAndDone() {
        Check.part("promise 29, stuck, and done");
        SlipwayPlan x = daily(2, 1, 1);
        x.setCrew(0, 1, 0);
        x.setNeed(0, 0, 2);
        x.link(0, 1, 0, 0);
        x.link(1, 2, 0, 0);
        Check.same("all", x.stuck(), 3);
        x.finish(1, 3, 4);
        Check.same("neither what is done nor what is behind it", x.stuck(), 1);
        Check.same("begin of what is behind it", x.begin(2), 4);
        x.reopen(1);
        x.finish(0, 0, 2);
        Check.same("none", x.stuck(), 0);
        Check.same("begin", x.begin(1), 2);
    }

    private static void orderAt() {
        Check.part("promise 30, orderAt");
        SlipwayPlan x = crowded();
        Check.same("first", x.orderAt(0), 1);
        Check.same("second", x.orderAt(1), 0);
        Check.same("third", x.orderAt(2), 2);
        Check.index("place -1", () -> x.orderAt(-1));
        Check.index("place 3", () -> x.orderAt(3));
        x.finish(2, 50, 60);
        x.finish(0, 70, 80);
        Check.same("done ones by their numbers", x.orderAt(0), 0);
        Check.same("done ones by their numbers", x.orderAt(1), 2);
        Check.same("then the others", x.orderAt(2), 1);
        x.setNeed(1, 0, 9);
        Check.index("the place of one that is stuck", () -> x.orderAt(2));
        Check.index("without any", () -> new SlipwayPlan().orderAt(0));
    }

    private static void orderByRules() {
        Check.part("promise 30, orderAt, by rules");
        SlipwayPlan x = daily(2, 6, 4, 3, 4);
        x.setTerms(0, 3, 2);
        x.setTerms(1, 0, 0);
        x.setTerms(2, 3, 4);
        x.setTerms(3, 0, 1);
        x.setTerms(4, 9, 0);
        x.link(0, 4, 0, 0);
        // late begins 2, 2, 4, 5, 4; rooms 0, 2, 0, 4, 0
        order(x, 0, 0, 1, 2, 4, 3);
        order(x, 1, 0, 2, 4, 1, 3);
        order(x, 2, 0, 4, 2, 1, 3);
        order(x, 3, 1, 2, 3, 0, 4);
        x.link(2, 1, 1, 0);
        order(x, 3, 2, 1, 3, 0, 4);
    }

    private static void order(SlipwayPlan x, int rule, int... due) {
        x.setRule(rule);
        for (int place = 0; place < due.length; place++) {
            Check.same("rule " + rule + ", place " + place, x.orderAt(place), due[place]);
        }
    }

    private static void used() {
        Check.part("promise 31, used");
        SlipwayPlan x = crowded();
        int[] due = {1, 1, 1, 1, 1, 1, 0};
        for (int day = 0; day < due.length; day++) {
            Check.same("used on " + day, x.used(0, day), due[day]);
        }
        x.setNeed(1, 0, 3);
        x.finish(1, 1, 4);
        int[] then = {1, 3, 3, 3, 1, 1, 0};
        for (int day = 0; day < then.length; day++) {
            Check.same("with one that is done, on " + day, x.used(0, day), then[day]);
        }
        Check.same("of another crew", x.used(1, 0), 0);
        x.setWeek(0, 127 - 4);
        Check.same("not on days not worked on", x.used(0, 2), 0);
        for (int day = 4990; day < 5010; day++) {
            Check.same("behind all plans", x.used(0, day), 0);
        }
        Check.same("on 9999", x.used(0, 9999), 0);
        Check.argument("day -1", () -> x.used(0, -1));
        Check.argument("day 10000", () -> x.used(0, 10000));
        Check.index("crew -1", () -> x.used(-1, 0));
        Check.index("crew 4", () -> x.used(4, 0));
        Check.index("crew 4, day 10000", () -> x.used(4, 10000));
    }

    private static void peak() {
        Check.part("promise 32, peak");
        SlipwayPlan x = daily(3, 2, 1);
        x.setNeed(0, 1, 3);
        x.setNeed(1, 1, 2);
        x.setNeed(2, 1, 2);
        Check.same("all at once", x.peak(1), 7);
        x.setCrew(1, 5, 0);
        Check.same("levelled", x.peak(1), 5);
        x.setCrew(1, 1, 0);
        Check.same("all stuck", x.peak(1), 0);
        x.finish(0, 3, 4);
        Check.same("one that is done", x.peak(1), 3);
        Check.same("another", x.peak(0), 0);
        Check.index("crew -1", () -> x.peak(-1));
        Check.index("crew 4", () -> x.peak(4));
    }

    private static void holds() {
        Check.part("promise 33, holds");
        SlipwayPlan x = crowded();
        Check.same("nothing", x.holds(1), 0);
        Check.same("a crew", x.holds(0), 2);
        x.link(1, 0, 0, 0);
        Check.same("a link", x.holds(0), 1);
        x.setTerms(0, 0, 3);
        Check.same("as first tells", x.holds(0), 0);
        x.setTerms(0, 0, 2);
        Check.same("a link again", x.holds(0), 1);
        x.finish(2, 3, 4);
        Check.same("one that is done", x.holds(2), -1);
        Check.same("a crew, behind a link", x.holds(0), 2);
        x.setNeed(0, 0, 2);
        Check.same("one that is stuck", x.holds(0), -1);
        SlipwayPlan y = new SlipwayPlan();
        y.addTask(1, 0);
        y.addTask(5, 0);
        y.link(1, 0, 0, 1);
        y.setTerms(0, 0, 5);
        Check.same("both are days to begin on", y.holds(0), 0);
        SlipwayPlan z = daily(1, 0);
        Check.same("nothing, without a length", z.holds(1), 0);
        z.link(0, 1, 0, 0);
        Check.same("a link, without a length", z.holds(1), 1);
        Check.index("task -1", () -> y.holds(-1));
        Check.index("task 2", () -> y.holds(2));
    }

    private static void heldBy() {
        Check.part("promise 34, heldBy");
        SlipwayPlan x = daily(4, 2, 1, 1);
        x.link(1, 2, 0, 0);
        Check.same("the only one", x.heldBy(2), 0);
        Check.same("nothing holds it", x.heldBy(0), -1);
        x.link(0, 2, 0, 0);
        x.link(0, 2, 1, 4);
        Check.same("the smallest that alone would do", x.heldBy(2), 1);
        x.setLength(1, 3);
        Check.same("not one that is a day short", x.heldBy(2), 1);
        x.link(3, 2, 2, 20);
        Check.same("by the end", x.heldBy(2), 3);
        x.setCrew(0, 1, 0);
        x.setNeed(0, 0, 1);
        x.setNeed(3, 0, 1);
        Check.same("a crew", x.heldBy(3), -1);
        x.finish(2, 0, 0);
        Check.same("one that is done", x.heldBy(2), -1);
        x.reopen(2);
        x.setNeed(0, 0, 9);
        Check.same("one that is stuck", x.heldBy(2), -1);
        SlipwayPlan y = new SlipwayPlan();
        y.addTask(5, 0);
        y.addTask(1, 0);
        y.link(0, 1, 0, 0);
        y.link(0, 1, 0, 2);
        Check.same("both come to the same day", y.begin(1), 7);
        Check.same("the smaller number", y.heldBy(1), 0);
        Check.index("task -1", () -> y.heldBy(-1));
        Check.index("task 2", () -> y.heldBy(2));
    }

    /** Links to others, on days that are far enough behind, come first by their numbers. */
    private static void heldByLinksToItAlone() {
        Check.part("promise 34, heldBy, links to it alone");
        SlipwayPlan x = daily(1, 1, 1);
        x.link(1, 2, 0, 0);
        x.link(0, 1, 0, 0);
        Check.same("not by one from it", x.heldBy(1), 1);
        Check.same("by that one", x.heldBy(2), 0);
        SlipwayPlan y = daily(1, 1, 1);
        y.link(1, 0, 0, 0);
        y.link(2, 1, 0, 0);
        Check.same("not by one from it, to a smaller number", y.heldBy(1), 1);
        Check.same("by that one", y.heldBy(0), 0);
    }

    private static void heldByOverCalendars() {
        Check.part("promise 34, heldBy, over calendars");
        SlipwayPlan x = daily(5, 6, 7);
        x.addTask(1, 1);
        x.link(0, 3, 0, 0);
        x.link(2, 3, 0, 0);
        Check.same("it begins behind the week's end", x.begin(3), 7);
        Check.same("by its own calendar day 5 is as day 7", x.heldBy(3), 0);
        x.setLength(0, 4);
        Check.same("on day 4 it could begin", x.heldBy(3), 1);
        x.addTask(1, 0);
        x.setLength(3, 5);
        x.link(3, 4, 0, 1);
        x.link(3, 4, 0, 2);
        Check.same("two days behind the end of task 3", x.begin(4), 14);
        Check.same("its own calendar works on day 13, too", x.heldBy(4), 3);
    }

    private static void idle() {
        Check.part("promise 35, idle");
        SlipwayPlan x = daily(3, 2);
        x.setCrew(0, 3, 0);
        x.setNeed(0, 0, 2);
        x.setNeed(1, 0, 2);
        Check.same("levelled in five days", x.idle(0), 5);
        Check.same("of one that is not used", x.idle(1), 45);
        x.setCrew(0, 2, 0);
        Check.same("all used", x.idle(0), 0);
        x.setCrew(0, 1, 0);
        Check.same("all stuck", x.idle(0), 0);
        x.finish(0, 1, 4);
        Check.same("more than its size counts 0", x.idle(0), 1);
        x.setWeek(0, 31);
        x.finish(0, 4, 8);
        Check.same("days not worked on count, too", x.idle(0), 6);
        Check.index("crew -1", () -> x.idle(-1));
        Check.index("crew 4", () -> x.idle(4));
    }

    // ---- kept, and done

    private static void keep() {
        Check.part("promise 36, keep");
        SlipwayPlan x = crowded();
        Check.same("all", x.keep(), 3);
        x.setNeed(0, 0, 2);
        Check.same("stays", x.planned(9), 5 * 6);
        Check.same("without one that is stuck", x.keep(), 2);
        Check.same("the next one", x.planned(9), 5 * 4);
        x.finish(0, 0, 1);
        Check.same("with one that is done", x.keep(), 3);
        Check.same("of an empty one", new SlipwayPlan().keep(), 0);
    }

    private static void behind() {
        Check.part("promise 37, behind");
        SlipwayPlan x = daily(2, 3);
        x.link(0, 1, 0, 0);
        Check.same("nothing kept", x.behind(1), 0);
        x.keep();
        Check.same("as kept", x.behind(1), 0);
        x.setLength(0, 6);
        Check.same("behind", x.behind(0), 4);
        Check.same("behind", x.behind(1), 4);
        x.setLength(0, 0);
        Check.same("ahead", x.behind(1), -2);
        x.addTask(9, 0);
        Check.same("not kept", x.behind(2), 0);
        x.finish(0, 20, 25);
        Check.same("done", x.behind(0), 23);
        x.setCrew(0, 0, 0);
        x.setNeed(1, 0, 1);
        Check.same("stuck", x.behind(1), 0);
        x.keep();
        x.setNeed(1, 0, 0);
        Check.same("was stuck as kept", x.behind(1), 0);
        Check.same("kept later", x.behind(0), 0);
        Check.index("task -1", () -> x.behind(-1));
        Check.index("task 3", () -> x.behind(3));
    }

    private static void planned() {
        Check.part("promise 38, planned");
        SlipwayPlan x = daily(3, 2);
        x.setNeed(0, 0, 1);
        x.setNeed(1, 1, 2);
        x.setCrew(0, 9, 1);
        x.setCrew(1, 9, 7);
        x.setTerms(1, 0, 2);
        Check.same("nothing kept", x.planned(9999), 0);
        x.keep();
        int[] due = {0, 1, 2, 17, 31, 31};
        for (int day = 0; day < due.length; day++) {
            Check.same("planned up to " + day, x.planned(day), due[day]);
        }
        Check.same("planned up to 9999", x.planned(9999), 31);
        x.finish(0, 0, 2);
        x.keep();
        Check.same("days of its own, cut", x.planned(1), 1);
        Check.same("all of them", x.planned(2), 3);
        x.finish(0, 4, 4);
        x.keep();
        Check.same("without any days", x.planned(9999), 28);
        Check.argument("day -1", () -> x.planned(-1));
        Check.argument("day 10000", () -> x.planned(10000));
    }

    private static void plannedAsKept() {
        Check.part("promise 38, planned, as kept");
        SlipwayPlan x = new SlipwayPlan();
        x.addTask(6, 1);
        x.setNeed(0, 3, 1);
        x.setCrew(3, 9, 2);
        x.setFree(1, 1, true);
        x.keep();
        x.setFree(1, 1, false);
        x.setWeek(1, 64);
        x.setCrew(3, 9, 50);
        x.setNeed(0, 3, 9);
        x.setLength(0, 1);
        x.addTask(20, 1);
        x.setNeed(1, 3, 9);
        int[] due = {0, 2, 2, 4, 6, 8, 8, 8, 10, 12, 12};
        for (int day = 0; day < due.length; day++) {
            Check.same("planned up to " + day, x.planned(day), due[day]);
        }
    }

    private static void earned() {
        Check.part("promise 39, earned");
        SlipwayPlan x = daily(3, 2);
        x.setNeed(0, 0, 1);
        x.setNeed(1, 0, 2);
        x.setCrew(0, 2, 10);
        x.finish(0, 0, 1);
        Check.same("nothing kept", x.earned(), 0);
        x.keep();
        Check.same("one is done", x.earned(), 30);
        x.setCrew(0, 2, 99);
        x.setLength(0, 9);
        Check.same("as kept", x.earned(), 30);
        x.finish(1, 0, 0);
        Check.same("both", x.earned(), 70);
        x.reopen(0);
        Check.same("the other", x.earned(), 40);
        x.addTask(3, 0);
        x.setNeed(2, 0, 1);
        x.finish(2, 0, 3);
        Check.same("not one that came later", x.earned(), 40);
    }

    private static void earnedOfKeptOnesAlone() {
        Check.part("promise 39, earned, not of those that were stuck");
        SlipwayPlan x = daily(3, 2);
        x.setCrew(0, 1, 10);
        x.setNeed(0, 0, 2);
        x.setNeed(1, 0, 1);
        Check.same("one is stuck", x.keep(), 1);
        x.finish(0, 0, 3);
        Check.same("it was not kept", x.earned(), 0);
        Check.same("nor is any of it planned", x.planned(9999), 20);
        x.finish(1, 0, 2);
        Check.same("the other one was", x.earned(), 20);
        Check.same("both are in it now", x.keep(), 2);
        Check.same("both are earned", x.earned(), 80);
    }

    private static void worth() {
        Check.part("promise 40, worth");
        SlipwayPlan x = new SlipwayPlan();
        Check.same("without any", x.worth(), 0);
        x.addTask(3, 0);
        x.addTask(2, 1);
        x.setNeed(0, 0, 2);
        x.setNeed(0, 3, 1);
        x.setNeed(1, 1, 4);
        x.setCrew(0, 9, 10);
        x.setCrew(1, 9, 5);
        x.setCrew(3, 9, 7);
        Check.same("all", x.worth(), 3 * (20 + 7) + 2 * 20);
        x.setCrew(0, 1, 10);
        Check.same("stuck ones, too", x.worth(), 121);
        x.finish(1, 0, 9);
        Check.same("done ones, too", x.worth(), 121);
        x.setLength(0, 0);
        Check.same("as of now", x.worth(), 40);
    }

    private static void pace() {
        Check.part("promise 41, pace");
        SlipwayPlan x = daily(3, 1);
        x.setNeed(0, 0, 1);
        x.setNeed(1, 0, 1);
        x.setCrew(0, 9, 1);
        x.finish(1, 1, 2);
        Check.sameDouble("nothing kept", x.pace(9), 0.0);
        x.keep();
        Check.sameDouble("nothing planned", x.pace(0), 0.0);
        Check.sameDouble("up to 1", x.pace(1), 1.0);
        Check.sameDouble("up to 2", x.pace(2), 1.0 / 3.0);
        Check.sameDouble("up to 9999", x.pace(9999), 0.25);
        x.reopen(1);
        Check.sameDouble("nothing earned", x.pace(9999), 0.0);
        Check.argument("day -1", () -> x.pace(-1));
        Check.argument("day 10000", () -> x.pace(10000));
    }

    // ---- what would be

    private static void lastWith() {
        Check.part("promise 42, lastWith");
        SlipwayPlan x = daily(2, 3, 4);
        x.link(0, 1, 0, 0);
        Check.same("as it is", x.lastWith(0, 2), 5);
        Check.same("longer", x.lastWith(0, 20), 23);
        Check.same("shorter", x.lastWith(0, 0), 4);
        Check.same("it stays", x.last(), 5);
        Check.same("its length stays", x.setLength(0, 2), 2);
        x.finish(0, 0, 1);
        Check.same("of one that is done", x.lastWith(0, 20), 4);
        Check.argument("length -1", () -> x.lastWith(0, -1));
        Check.argument("length 21", () -> x.lastWith(0, 21));
        Check.index("task -1", () -> x.lastWith(-1, 1));
        Check.index("task 3", () -> x.lastWith(3, 1));
        Check.index("task 3, length 21", () -> x.lastWith(3, 21));
    }

    private static void levelledWith() {
        Check.part("promise 43, levelledWith");
        SlipwayPlan x = crowded();
        Check.same("as it is", x.levelledWith(0, 1), 6);
        Check.same("with two", x.levelledWith(0, 2), 3);
        Check.same("with none", x.levelledWith(0, 0), 0);
        Check.same("with nine", x.levelledWith(0, 9), 3);
        Check.same("another", x.levelledWith(3, 0), 6);
        Check.same("it stays", x.levelledLast(), 6);
        Check.same("its size stays", x.setCrew(0, 1, 5), 1);
        x.setRule(3);
        x.setLength(2, 3);
        x.setLength(0, 1);
        Check.same("by the rule of now", x.levelledWith(0, 2), 4);
        SlipwayPlan y = daily(2, 2, 6);
        y.setCrew(0, 1, 0);
        y.setNeed(0, 0, 1);
        y.setNeed(1, 0, 1);
        Check.same("task 0 comes ahead of task 1", y.orderAt(1), 0);
        y.link(1, 2, 0, 0);
        Check.same("task 1 comes first by its late begin of now", y.levelledWith(0, 1), 8);
        Check.argument("size -1", () -> x.levelledWith(0, -1));
        Check.argument("size 10", () -> x.levelledWith(0, 10));
        Check.index("crew -1", () -> x.levelledWith(-1, 1));
        Check.index("crew 4", () -> x.levelledWith(4, 1));
        Check.index("crew 4, size 10", () -> x.levelledWith(4, 10));
    }

    private static void levelledWithout() {
        Check.part("promise 44, levelledWithout");
        SlipwayPlan x = daily(2, 3, 4);
        Check.index("without links", () -> x.levelledWithout(0));
        x.link(0, 1, 0, 5);
        x.link(1, 2, 0, 0);
        x.link(0, 2, 0, 9);
        Check.same("as it is", x.levelledLast(), 15);
        Check.same("without 0", x.levelledWithout(0), 15);
        Check.same("without 2", x.levelledWithout(2), 14);
        x.setLength(1, 8);
        Check.same("without 1", x.levelledWithout(1), 15);
        Check.same("it stays", x.levelledLast(), 19);
        Check.same("links stay", x.links(), 3);
        Check.same("held by", x.heldBy(1), 0);
        Check.same("held by", x.heldBy(2), 1);
        x.drop(1);
        Check.same("held by", x.heldBy(2), 1);
        Check.index("link -1", () -> x.levelledWithout(-1));
        Check.index("link 2", () -> x.levelledWithout(2));
        levelledWithoutGoesByItsOwnLateBegins();
    }

    /** The link makes task 0 come first by its late begin; without it the longer task 1 does. */
    private static void levelledWithoutGoesByItsOwnLateBegins() {
        SlipwayPlan x = daily(2, 3, 9);
        x.setCrew(0, 1, 0);
        x.setNeed(0, 0, 1);
        x.setNeed(1, 0, 1);
        x.link(0, 2, 0, 0);
        Check.same("task 0 comes first", x.orderAt(0), 0);
        x.addTask(6, 0);
        x.link(1, 3, 0, 0);
        Check.same("as it is", x.levelledLast(), 11);
        Check.same("without it task 1 comes first", x.levelledWithout(0), 9);
    }

    private static void bestRule() {
        Check.part("promise 45, bestRule");
        Check.same("without any", new SlipwayPlan().bestRule(), 0);
        SlipwayPlan x = crowded();
        Check.same("all the same", x.bestRule(), 0);
        x.setRule(3);
        Check.same("whatever the rule is", x.bestRule(), 0);
        Check.same("the room: lasts 9, 8, 9, 9", contended(3, 2, 3, 1, 3, 0).bestRule(), 1);
        Check.same("the rank: lasts 6, 6, 5, 6", contended(2, 3, 0, 0, 1, 0).bestRule(), 2);
        SlipwayPlan y = contended(1, 3, 3, 1, 0, 0);
        Check.same("all the same", y.bestRule(), 0);
        y.link(0, 2, 0, 0);
        Check.same("the length: lasts 8, 8, 8, 7", y.bestRule(), 3);
        Check.same("it is not set", y.levelledLast(), 8);
        Check.same("it is not set", y.setRule(3), 0);
        Check.same("it is least then", y.levelledLast(), 7);
    }

    /** Behind each of the tasks 0 to 2, which need the one hand, the plan goes on for 1, 6 and 3 days. */
    private static void bestRuleOfDifferentLasts() {
        Check.part("promise 45, bestRule, of different lasts");
        SlipwayPlan x = daily(4, 2, 1, 0, 0, 0);
        x.setCrew(0, 1, 0);
        int[] further = {1, 6, 3};
        for (int task = 0; task < 3; task++) {
            x.setNeed(task, 0, 1);
            x.link(task, task + 3, 0, further[task]);
        }
        ranked(x, 9, 1, 5);
        int[] due = {10, 10, 13, 12};
        for (int rule = 3; rule >= 0; rule--) {
            x.setRule(rule);
            Check.same("last by rule " + rule, x.levelledLast(), due[rule]);
            Check.same("the first two are least; by rule " + rule, x.bestRule(), 0);
        }
        ranked(x, 1, 5, 9);
        for (int rule = 0; rule < 4; rule++) {
            x.setRule(rule);
            Check.same("the rank is less, 9; by rule " + rule, x.bestRule(), 2);
        }
        ranked(x, 5, 9, 1);
        Check.same("the rank is as they are, 10", x.bestRule(), 0);
    }

    private static void ranked(SlipwayPlan x, int... ranks) {
        for (int task = 0; task < ranks.length; task++) {
            x.setTerms(task, ranks[task], 0);
        }
    }

    /** Three tasks with their lengths and then their first days; each needs the one hand of crew 0. */
    private static SlipwayPlan contended(int... told) {
        SlipwayPlan x = daily(told[0], told[1], told[2]);
        x.setCrew(0, 1, 0);
        for (int task = 0; task < 3; task++) {
            x.setNeed(task, 0, 1);
            x.setTerms(task, 0, told[3 + task]);
        }
        return x;
    }

    private static void couldGrow() {
        Check.part("promise 46, couldGrow");
        SlipwayPlan x = daily(10, 2, 0);
        Check.same("up to the last day", x.couldGrow(1), 8);
        Check.same("without a length", x.couldGrow(2), 10);
        Check.same("the longest", x.couldGrow(0), 0);
        x.setLength(0, 20);
        Check.same("up to 20", x.couldGrow(1), 18);
        Check.same("of 20", x.couldGrow(0), 0);
        x.link(1, 2, 0, 20);
        Check.same("what is behind it", x.couldGrow(1), 0);
        x.finish(1, 0, 3);
        Check.same("of one that is done", x.couldGrow(1), 18);
        Check.same("its length stays", x.setLength(1, 2), 2);
        Check.index("task -1", () -> x.couldGrow(-1));
        Check.index("task 3", () -> x.couldGrow(3));
        couldGrowStopsWhereItIsLess();
    }

    /** Task 1 begins earlier as it grows, as its end alone is asked for; so does what is beside it. */
    private static void couldGrowStopsWhereItIsLess() {
        SlipwayPlan x = daily(9, 2, 9);
        x.link(0, 1, 2, 0);
        x.link(1, 2, 1, 0);
        Check.same("last", x.last(), 16);
        Check.same("less with the first day more", x.lastWith(1, 3), 15);
        Check.same("so none", x.couldGrow(1), 0);
        Check.same("the same again with 16", x.lastWith(1, 16), 16);
    }

    private static void digest() {
        Check.part("promise 47, digest");
        SlipwayPlan x = crowded();
        x.link(2, 0, 0, 1);
        x.setNeed(1, 0, 2);
        x.keep();
        x.finish(2, 1, 3);
        long d = 2633;
        int[] heads = {x.tasks(), x.links(), x.last(), x.tight(), x.levelledLast(), x.stuck()};
        for (int v : heads) {
            d = d * 31 + v;
        }
        for (int t = 0; t < 3; t++) {
            int[] told = {x.earlyBegin(t), x.earlyEnd(t), x.lateBegin(t), x.lateEnd(t), x.room(t), x.begin(t), x.end(t),
                x.holds(t), x.heldBy(t), x.behind(t)};
            for (int v : told) {
                d = d * 31 + v;
            }
        }
        for (int c = 0; c < 4; c++) {
            d = d * 31 + x.overloaded(c);
            d = d * 31 + x.peak(c);
            d = d * 31 + x.idle(c);
        }
        d = d * 31 + x.orderAt(0);
        d = d * 31 + x.orderAt(1);
        d = d * 31 + x.earned();
        d = d * 31 + x.worth();
        d = d * 31 + x.planned(x.levelledLast());
        Check.same("stuck", x.stuck(), 1);
        Check.same("earned", x.earned(), 5);
        Check.same("digest", x.digest(), d);
        Check.same("of an empty one", new SlipwayPlan().digest(), EMPTY);
    }

    private static void changesNothing() {
        Check.part("promises 42 to 47 change nothing");
        SlipwayPlan x = crowded();
        x.link(1, 0, 1, 1);
        x.keep();
        long before = x.digest();
        x.lastWith(0, 9);
        x.levelledWith(0, 0);
        x.levelledWithout(0);
        x.bestRule();
        x.couldGrow(2);
        Check.same("digest", x.digest(), before);
        x.setRule(0);
        Check.same("digest, reckoned anew", x.digest(), before);
    }

    /** With 24 tasks and 40 links no call leaves its rows. */
    private static void aFullObject() {
        Check.part("24 tasks and 40 links");
        SlipwayPlan x = new SlipwayPlan();
        x.setWeek(0, 127);
        for (int task = 0; task < 24; task++) {
            x.addTask(1, 0);
            x.setNeed(task, 0, 5);
        }
        x.setCrew(0, 9, 1);
        for (int task = 1; task < 24; task++) {
            x.link(task - 1, task, 0, 0);
        }
        while (x.links() < 40) {
            x.link(0, 23, 0, 0);
        }
        Check.same("last", x.last(), 24);
        Check.same("levelled last", x.levelledLast(), 24);
        Check.same("kept", x.keep(), 24);
        Check.same("worth", x.worth(), 120);
        Check.same("planned", x.planned(24), 120);
        x.finish(23, 0, 1);
        Check.same("earned", x.earned(), 5);
        Check.same("used", x.used(0, 0), 5);
        Check.same("the first one waits", x.begin(0), 1);
        Check.same("order", x.orderAt(0), 23);
        Check.same("held by", x.heldBy(22), 21);
        Check.same("without a link", x.levelledWithout(39), 24);
        Check.same("the digest twice", x.digest(), x.digest());
    }

    /** Each call that tells something is seen by the next one that asks, also if that asked ahead of it. */
    private static void asOfNow() {
        tellsAtOnce("setWeek", x -> x.setWeek(0, 31), x -> x.earlyBegin(2));
        tellsAtOnce("setFree", x -> x.setFree(0, 5, true), x -> x.earlyBegin(2));
        tellsAtOnce("setCrew", x -> x.setCrew(0, 2, 5), x -> x.begin(1));
        tellsAtOnce("addTask", x -> x.addTask(20, 1), x -> x.last());
        tellsAtOnce("setLength", x -> x.setLength(2, 9), x -> x.last());
        tellsAtOnce("setTerms", x -> x.setTerms(2, 0, 30), x -> x.last());
        tellsAtOnce("setNeed", x -> x.setNeed(0, 0, 0), x -> x.begin(1));
        tellsAtOnce("link", x -> x.link(0, 1, 0, 9), x -> x.earlyBegin(1));
        tellsAtOnce("drop", x -> x.drop(0), x -> x.earlyBegin(2));
        tellsAtOnce("finish", x -> x.finish(0, 30, 40), x -> x.end(0));
        tellsAtOnce("reopen", x -> x.reopen(3), x -> x.begin(3));
        tellsAtOnce("setRule", x -> x.setRule(3), x -> x.begin(1));
        asksAnew("earlyBegin", x -> x.earlyBegin(1));
        asksAnew("earlyEnd", x -> x.earlyEnd(1));
        asksAnew("lateBegin", x -> x.lateBegin(1));
        asksAnew("lateEnd", x -> x.lateEnd(0));
        asksAnew("room", x -> x.room(0));
        asksAnew("last", x -> x.last());
        asksAnew("tight", x -> x.tight());
        asksAnew("wanted", x -> x.wanted(0, 8));
        asksAnew("overloaded", x -> x.overloaded(0));
        asksAnew("begin", x -> x.begin(1));
        asksAnew("end", x -> x.end(1));
        asksAnew("levelledLast", x -> x.levelledLast());
        asksAnew("stuck", x -> x.stuck());
        asksAnew("orderAt", x -> x.orderAt(3));
        asksAnew("used", x -> x.used(0, 8));
        asksAnew("peak", x -> x.peak(0));
        asksAnew("holds", x -> x.holds(1));
        asksAnew("heldBy", x -> x.heldBy(1));
        asksAnew("idle", x -> x.idle(1));
        asksAnew("behind", x -> x.behind(0));
        asksAnew("planned", x -> x.keep() + x.planned(3));
        asksAnew("lastWith", x -> x.lastWith(2, 3));
        asksAnew("levelledWith", x -> x.levelledWith(3, 1));
        asksAnew("levelledWithout", x -> x.levelledWithout(0));
        asksAnew("couldGrow", x -> x.couldGrow(2));
        asksAnew("digest", x -> x.digest());
    }

    private static SlipwayPlan busy() {
        SlipwayPlan x = crowded();
        x.link(0, 2, 0, 3);
        x.addTask(2, 0);
        x.finish(3, 9, 12);
        x.keep();
        return x;
    }

    /** Longer, later and more of it, so that each answer is another one. */
    private static void change(SlipwayPlan x) {
        x.setLength(0, 6);
        x.setLength(1, 9);
        x.setTerms(1, 9, 1);
        x.link(2, 1, 0, 4);
        x.setNeed(2, 0, 2);
        x.finish(3, 2, 9);
        x.setNeed(3, 0, 3);
        x.setLength(2, 2);
        x.setTerms(0, 0, 1);
        x.setCrew(0, 2, 5);
        x.addTask(8, 0);
        x.setNeed(4, 0, 1);
        x.addTask(5, 0);
        x.setNeed(5, 0, 9);
        x.setTerms(5, 0, 12);
    }

    private static void tellsAtOnce(String call, Consumer<SlipwayPlan> tell, ToLongFunction<SlipwayPlan> ask) {
        Check.part(call + ", as of now");
        SlipwayPlan x = busy();
        long before = ask.applyAsLong(x);
        tell.accept(x);
        SlipwayPlan y = busy();
        tell.accept(y);
        y.setRule(y.setRule(0));
        Check.same("the answer", ask.applyAsLong(x), ask.applyAsLong(y));
        Check.holds("the answer is another one", ask.applyAsLong(x) != before);
    }

    private static void asksAnew(String call, ToLongFunction<SlipwayPlan> ask) {
        Check.part(call + ", as of now");
        SlipwayPlan x = busy();
        long before = ask.applyAsLong(x);
        change(x);
        long got = ask.applyAsLong(x);
        SlipwayPlan y = busy();
        change(y);
        y.last();
        Check.same("the answer", got, ask.applyAsLong(y));
        Check.holds("the answer " + got + " is another one", got != before);
    }

    private static void asTheReadmeTells() {
        Check.part("the example in README.md");
        SlipwayPlan plan = new SlipwayPlan();
        int hull = plan.addTask(5, 0);
        int deck = plan.addTask(3, 0);
        plan.link(hull, deck, 0, 1);
        plan.setCrew(2, 4, 30);
        plan.setNeed(hull, 2, 3);
        Check.same("last", plan.last(), 10);
        Check.same("begin", plan.begin(deck), 7);
        Check.same("holds", plan.holds(deck), 1);
        plan.keep();
        plan.finish(hull, 0, 8);
        Check.same("behind", plan.behind(deck), 2);
        Check.same("lastWith", plan.lastWith(deck, 6), 17);
    }
}
