import java.math.BigInteger;

/**
 * Each sentence that names a boundary, on both sides of it: the last that is taken and the first one behind it, none
 * and one, full and one more, equal and one short; reckoned by hand. What is refused changes nothing by
 * RefusedCallTest.
 */
public final class EdgeTest {
    private EdgeTest() {
    }

    public static void main(String[] args) {
        whatThereIs();
        early();
        late();
        levelled();
        keptAndDone();
        whatWouldBe();
        Check.end();
    }

    private static void whatThereIs() {
        nothingOfAnything();
        firstValues();
        weekdays();
        weeksWrapAround();
        freeDays();
        twelveFreeDays();
        crewNumbers();
        twentyFourTasks();
        taskNumbers();
        fortyLinks();
        linkNumbers();
        linksThatComeBack();
        dropFirstAndLast();
        finishDays();
        reopenTwice();
        rules();
        worksDays();
    }

    private static void early() {
        earlyFirst();
        earlyFirstAtItsGreatest();
        earlyEnds();
        earlyBehind();
        earlyBeside();
        earlyTogether();
        earlyOverTheWeekend();
        earlyTogetherOverTheWeekend();
        earlyOfDoneOnes();
        lastDay();
        theFurthestDay();
        wantedDays();
        wantedOfDoneOnes();
        wantedAtMost();
        overloadedByOne();
    }

    private static void late() {
        lateEndsOnTheLastDay();
        lateByLinks();
        lateByCalendars();
        lateOfDoneOnes();
        lateIsNeverAheadOfEarly();
        roomNoneAndOne();
        roomCountsDays();
        tightNoneAndOne();
    }

    private static void levelled() {
        handsLeftJustSo();
        gapsJustSo();
        gapsByLinksAndFirst();
        stuckByOne();
        stuckBehind();
        stuckAndDone();
        levelledLastNoneAndOne();
        orderPlaces();
        orderOfEqualOnes();
        orderByOneMore();
        usedDays();
        peakNoneAndMore();
        holdsByOneDay();
        holdsOverTheWeekend();
        heldByTheSmallest();
        heldByTogether();
        idleNone();
    }

    private static void keptAndDone() {
        keepNoneAndAll();
        keptAreNotLaterOnes();
        behindBothWays();
        plannedDays();
        plannedCut();
        plannedOfDoneOnes();
        plannedByKeptCalendars();
        earnedNoneAndAll();
        worthNoneAndMost();
        paceOfNothing();
    }

    private static void whatWouldBe() {
        lastWithNoneAndMost();
        levelledWithNoneAndMost();
        levelledWithoutTheOnlyOne();
        levelledWithoutFirstAndLast();
        bestRuleOfEqualOnes();
        couldGrowNoneAndAll();
        couldGrowUpToTheLastDay();
        digestWrapsAround();
    }

    /** Tasks with these lengths, all in calendar 0, on which one works each day. */
    private static SlipwayPlan daily(int... lengths) {
        SlipwayPlan x = new SlipwayPlan();
        x.setWeek(0, 127);
        for (int length : lengths) {
            x.addTask(length, 0);
        }
        return x;
    }

    /** Tasks with these lengths, all in calendar 0, on which one works on weekdays 0 to 4. */
    private static SlipwayPlan weekly(int... lengths) {
        SlipwayPlan x = daily(lengths);
        x.setWeek(0, 31);
        return x;
    }

    /** Tasks with these lengths, each of which needs the one hand of crew 0; worked on each day. */
    private static SlipwayPlan oneHanded(int... lengths) {
        SlipwayPlan x = daily(lengths);
        x.setCrew(0, 1, 0);
        for (int task = 0; task < lengths.length; task++) {
            x.setNeed(task, 0, 1);
        }
        return x;
    }

    // ---- what there is

    private static void nothingOfAnything() {
        Check.part("promise 1: without tasks");
        SlipwayPlan x = new SlipwayPlan();
        int[] told = {x.tasks(), x.links(), x.last(), x.tight(), x.levelledLast(), x.stuck(), x.earned(), x.worth(),
            x.planned(0), x.planned(9999), x.bestRule(), x.keep()};
        for (int at = 0; at < told.length; at++) {
            Check.same("answer " + at, told[at], 0);
        }
        Check.sameDouble("pace", x.pace(0), 0.0);
        Check.sameDouble("pace on 9999", x.pace(9999), 0.0);
        for (int crew = 0; crew < 4; crew++) {
            Check.same("wanted", x.wanted(crew, 0), 0);
            Check.same("wanted on 9999", x.wanted(crew, 9999), 0);
            Check.same("used", x.used(crew, 0), 0);
            Check.same("used on 9999", x.used(crew, 9999), 0);
            Check.same("overloaded", x.overloaded(crew), 0);
            Check.same("peak", x.peak(crew), 0);
            Check.same("idle", x.idle(crew), 0);
            Check.same("levelledWith none", x.levelledWith(crew, 0), 0);
        }
        Check.index("no place", () -> x.orderAt(0));
        Check.index("no task", () -> x.earlyBegin(0));
        Check.index("no link", () -> x.drop(0));
        x.addTask(0, 0);
        Check.same("the first task's place", x.orderAt(0), 0);
        Check.index("no second place", () -> x.orderAt(1));
        Check.same("the first task's begin", x.earlyBegin(0), 0);
        Check.index("no second task", () -> x.earlyBegin(1));
    }

    private static void firstValues() {
        Check.part("what there is at first");
        SlipwayPlan x = new SlipwayPlan();
        for (int calendar = 0; calendar < 4; calendar++) {
            for (int day : new int[] {0, 5, 6, 7, 999}) {
                Check.same("free in " + calendar, x.setFree(calendar, day, false), false);
            }
            Check.same("weekdays of " + calendar, x.setWeek(calendar, 31), 31);
        }
        x.addTask(1, 0);
        x.addTask(1, 0);
        x.setNeed(0, 0, 9);
        for (int crew = 0; crew < 4; crew++) {
            Check.same("price of " + crew, x.worth(), 0);
            Check.same("size of " + crew, x.setCrew(crew, 9, 0), 9);
            Check.same("needs of " + crew, x.setNeed(1, crew, 0), 0);
        }
        Check.same("rule", x.setRule(2), 0);
        Check.same("rank is 0: the smallest number", x.orderAt(0), 0);
        x.setTerms(1, 1, 0);
        Check.same("a rank of 1 is more", x.orderAt(0), 1);
        Check.same("first", x.setTerms(0, 0, 0), 0);
        Check.same("is not done", x.reopen(0), false);
    }

    private static void weekdays() {
        Check.part("promise 2: weekdays 1 to 127, calendars 0 to 3");
        for (int calendar : new int[] {0, 3}) {
            SlipwayPlan x = new SlipwayPlan();
            Check.same("1", x.setWeek(calendar, 1), 31);
            Check.same("works on 0", x.works(calendar, 0), true);
            for (int day = 1; day < 7; day++) {
                Check.same("works on " + day, x.works(calendar, day), false);
            }
            Check.argument("0", () -> x.setWeek(calendar, 0));
            Check.same("127", x.setWeek(calendar, 127), 1);
            for (int day = 0; day < 8; day++) {
                Check.same("works on " + day, x.works(calendar, day), true);
            }
            Check.argument("128", () -> x.setWeek(calendar, 128));
            Check.same("64", x.setWeek(calendar, 64), 127);
        }
    }

    private static void weeksWrapAround() {
        Check.part("the weekday of a day is day % 7");
        SlipwayPlan x = new SlipwayPlan();
        x.setWeek(0, 64);
        int[] due = {0, 0, 0, 0, 0, 0, 1, 0, 0, 0, 0, 0, 0, 1, 0};
        for (int day = 0; day < due.length; day++) {
            Check.same("works on " + day, x.works(0, day), due[day] == 1);
        }
        x.addTask(2, 0);
        Check.same("begin on weekday 6", x.earlyBegin(0), 6);
        Check.same("end a week and a day on", x.earlyEnd(0), 14);
        x.setWeek(0, 65);
        Check.same("begin on weekday 0", x.earlyBegin(0), 0);
        Check.same("the next one is weekday 6", x.earlyEnd(0), 7);
        x.setTerms(0, 0, 6);
        Check.same("weekday 0 comes right behind 6", x.earlyEnd(0), 8);
    }

    private static void freeDays() {
        Check.part("promise 3: days 0 to 999");
        SlipwayPlan x = daily(1, 1);
        Check.argument("-1", () -> x.setFree(0, -1, true));
        Check.same("0", x.setFree(0, 0, true), false);
        Check.same("works on 0", x.works(0, 0), false);
        Check.same("works on 1", x.works(0, 1), true);
        Check.same("begin", x.earlyBegin(0), 1);
        Check.same("999", x.setFree(0, 999, true), false);
        Check.argument("1000", () -> x.setFree(0, 1000, true));
        Check.same("works on 998", x.works(0, 998), true);
        Check.same("works on 999", x.works(0, 999), false);
        Check.same("works on 1000", x.works(0, 1000), true);
        x.setTerms(1, 0, 999);
        Check.same("begin behind it", x.earlyBegin(1), 1000);
        Check.same("999 taken back", x.setFree(0, 999, false), true);
        Check.same("begin on it", x.earlyBegin(1), 999);
        Check.same("calendar 3", x.setFree(3, 0, true), false);
        Check.index("calendar 4", () -> x.setFree(4, 0, true));
        Check.index("calendar -1", () -> x.setFree(-1, 0, true));
    }

    private static void twelveFreeDays() {
        Check.part("promise 3: at most 12 free days");
        SlipwayPlan x = new SlipwayPlan();
        for (int day = 0; day < 11; day++) {
            x.setFree(0, day, true);
        }
        Check.same("one of the 11 again", x.setFree(0, 3, true), true);
        Check.same("none of them taken back", x.setFree(0, 500, false), false);
        Check.same("the 12th", x.setFree(0, 11, true), false);
        Check.state("the 13th", () -> x.setFree(0, 12, true));
        Check.same("one of the 12 again", x.setFree(0, 11, true), true);
        Check.same("one that is none of them taken back", x.setFree(0, 12, false), false);
        Check.state("still the 13th", () -> x.setFree(0, 12, true));
        Check.same("works on it", x.works(0, 14), true);
        Check.same("one taken back", x.setFree(0, 0, false), true);
        Check.same("it was not free any more", x.setFree(0, 0, false), false);
        Check.same("the 12th again", x.setFree(0, 12, true), false);
        Check.state("the 13th again", () -> x.setFree(0, 0, true));
        for (int day = 1; day < 13; day++) {
            Check.same("each is free", x.setFree(0, day, true), true);
        }
        Check.same("another calendar's first one", x.setFree(1, 0, true), false);
        x.addTask(1, 0);
        x.setWeek(0, 127);
        Check.same("begins on the day that was taken back", x.earlyBegin(0), 0);
        x.setLength(0, 2);
        Check.same("and goes on behind 12 free ones", x.earlyEnd(0), 14);
    }

    private static void crewNumbers() {
        Check.part("promise 4: size 0 to 9, price 0 to 99, crews 0 to 3");
        SlipwayPlan x = daily(1);
        for (int crew : new int[] {0, 3}) {
            x.setNeed(0, crew, 1);
            Check.same("size 0", x.setCrew(crew, 0, 0), 9);
            Check.same("one is needed", x.stuck(), 1);
            Check.same("worth at price 0", x.worth(), 0);
            Check.same("size 1, price 99", x.setCrew(crew, 1, 99), 0);
            Check.same("one is needed, and there", x.stuck(), 0);
            Check.same("worth at price 99", x.worth(), 99);
            Check.argument("size 10", () -> x.setCrew(crew, 10, 0));
            Check.argument("size -1", () -> x.setCrew(crew, -1, 0));
            Check.argument("price 100", () -> x.setCrew(crew, 2, 100));
            Check.argument("price -1", () -> x.setCrew(crew, 2, -1));
            Check.same("size 9, price 1", x.setCrew(crew, 9, 1), 1);
            Check.same("worth at price 1", x.worth(), 1);
            Check.same("size 9 stands", x.setCrew(crew, 9, 0), 9);
            x.setNeed(0, crew, 0);
        }
        Check.index("crew -1", () -> x.setCrew(-1, 0, 0));
        Check.index("crew 4", () -> x.setCrew(4, 0, 0));
    }

    private static void twentyFourTasks() {
        Check.part("promises 5 and 14: at most 24 tasks");
        SlipwayPlan x = new SlipwayPlan();
        Check.same("none", x.tasks(), 0);
        for (int task = 0; task < 23; task++) {
            x.addTask(1, task % 4);
        }
        Check.same("23", x.tasks(), 23);
        Check.same("the 24th", x.addTask(20, 3), 23);
        Check.same("24", x.tasks(), 24);
        Check.state("the 25th", () -> x.addTask(0, 0));
        x.finish(5, 0, 0);
        Check.state("the 25th, one being done", () -> x.addTask(0, 0));
        Check.same("24 still", x.tasks(), 24);
        Check.same("the 24th's length", x.setLength(23, 2), 20);
        Check.same("the 24th's end", x.end(23), 2);
        Check.index("no task 24", () -> x.end(24));
    }

    private static void taskNumbers() {
        Check.part("promises 5 to 8: length 0 to 20, rank 0 to 9, first 0 to 999, needs 0 to 9");
        SlipwayPlan x = new SlipwayPlan();
        x.setWeek(3, 127);
        Check.argument("added with -1", () -> x.addTask(-1, 3));
        Check.argument("added with 21", () -> x.addTask(21, 3));
        Check.same("added with 0", x.addTask(0, 3), 0);
        Check.same("added with 20", x.addTask(20, 3), 1);
        Check.same("end of 0", x.earlyEnd(0), 0);
        Check.same("end of 20", x.earlyEnd(1), 20);
        Check.same("length 20", x.setLength(0, 20), 0);
        Check.argument("length 21", () -> x.setLength(0, 21));
        Check.same("length 0", x.setLength(1, 0), 20);
        Check.argument("length -1", () -> x.setLength(1, -1));
        Check.same("end of 20", x.earlyEnd(0), 20);
        Check.same("end of 0", x.earlyEnd(1), 0);
        Check.same("rank 9, first 999", x.setTerms(1, 9, 999), 0);
        Check.argument("rank 10", () -> x.setTerms(1, 10, 999));
        Check.argument("first 1000", () -> x.setTerms(1, 9, 1000));
        Check.same("begin on 999", x.earlyBegin(1), 999);
        Check.same("rank 0, first 0", x.setTerms(1, 0, 0), 999);
        Check.argument("rank -1", () -> x.setTerms(1, -1, 0));
        Check.argument("first -1", () -> x.setTerms(1, 0, -1));
        Check.same("begin on 0", x.earlyBegin(1), 0);
        for (int crew : new int[] {0, 3}) {
            Check.same("needs 9", x.setNeed(0, crew, 9), 0);
            Check.argument("needs 10", () -> x.setNeed(0, crew, 10));
            Check.same("wanted 9", x.wanted(crew, 19), 9);
            Check.same("needs 0", x.setNeed(0, crew, 0), 9);
            Check.argument("needs -1", () -> x.setNeed(0, crew, -1));
            Check.same("wanted 0", x.wanted(crew, 19), 0);
        }
        Check.index("crew 4", () -> x.setNeed(0, 4, 0));
        Check.index("crew -1", () -> x.setNeed(0, -1, 0));
        Check.index("task 2", () -> x.setNeed(2, 0, 0));
    }

    private static void fortyLinks() {
        Check.part("promises 9 and 15: at most 40 links");
        SlipwayPlan x = daily(1, 1, 1);
        Check.same("none", x.links(), 0);
        for (int link = 0; link < 39; link++) {
            x.link(0, 1, 0, 0);
        }
        Check.same("39", x.links(), 39);
        Check.same("the 40th", x.link(1, 2, 0, 7), 39);
        Check.same("40", x.links(), 40);
        Check.same("it holds", x.begin(2), 9);
        Check.same("by its number", x.heldBy(2), 39);
        Check.state("the 41st", () -> x.link(0, 2, 0, 20));
        Check.same("holds nothing", x.begin(2), 9);
        Check.same("one dropped", x.drop(0), 39);
        Check.same("the 40th again", x.link(0, 2, 0, 20), 39);
        Check.same("it holds", x.begin(2), 21);
        Check.state("the 41st again", () -> x.link(0, 2, 0, 20));
    }

    private static void linkNumbers() {
        Check.part("promise 9: kind 0 to 2, lag 0 to 20, tasks that there are");
        for (int kind = 0; kind < 3; kind++) {
            int number = kind;
            SlipwayPlan x = daily(3, 3);
            Check.argument("lag -1", () -> x.link(0, 1, number, -1));
            Check.same("lag 0", x.link(0, 1, kind, 0), 0);
            Check.same("begin", x.earlyBegin(1), kind == 0 ? 3 : 0);
            Check.same("lag 20", x.link(0, 1, kind, 20), 1);
            Check.same("begin", x.earlyBegin(1), kind == 0 ? 23 : 20);
            Check.argument("lag 21", () -> x.link(0, 1, number, 21));
            Check.index("to 2", () -> x.link(0, 2, number, 0));
            Check.index("from 2", () -> x.link(2, 0, number, 0));
            Check.index("to -1", () -> x.link(0, -1, number, 0));
            Check.index("from -1", () -> x.link(-1, 0, number, 0));
        }
        SlipwayPlan y = daily(1, 1);
        Check.argument("kind -1", () -> y.link(0, 1, -1, 0));
        Check.argument("kind 3", () -> y.link(0, 1, 3, 0));
        Check.same("no links", y.links(), 0);
        Check.same("from the last task to the first", y.link(1, 0, 0, 0), 0);
    }

    private static void linksThatComeBack() {
        Check.part("promise 9: never back to a task");
        SlipwayPlan x = new SlipwayPlan();
        for (int task = 0; task < 24; task++) {
            x.addTask(1, 0);
        }
        Check.state("to itself", () -> x.link(0, 0, 0, 0));
        for (int task = 22; task >= 0; task--) {
            x.link(task, task + 1, task % 3, 0);
        }
        Check.state("over all 24", () -> x.link(23, 0, 2, 20));
        Check.state("over two", () -> x.link(1, 0, 1, 0));
        Check.same("along over all 24", x.link(0, 23, 2, 20), 23);
        Check.same("link 22 is the one from 0", x.drop(22), 23);
        Check.state("0 still comes ahead of 23", () -> x.link(23, 0, 0, 0));
        Check.same("the link from 0 to 23", x.drop(22), 22);
        Check.same("comes back no more", x.link(23, 0, 0, 0), 22);
        Check.state("but so would this", () -> x.link(0, 1, 0, 0));
        Check.same("not a branch", x.link(1, 0, 0, 0), 23);
    }

    private static void dropFirstAndLast() {
        Check.part("promise 10: the first link, the last one, the only one");
        SlipwayPlan x = daily(1, 1, 1, 1);
        x.link(0, 1, 0, 1);
        x.link(0, 2, 0, 2);
        x.link(0, 3, 0, 3);
        Check.index("-1", () -> x.drop(-1));
        Check.index("3", () -> x.drop(3));
        Check.same("the last one", x.drop(2), 2);
        Check.same("is gone", x.begin(3), 0);
        Check.same("not another one", x.heldBy(2), 1);
        Check.index("2, now", () -> x.drop(2));
        Check.same("the first one", x.drop(0), 1);
        Check.same("is gone", x.begin(1), 0);
        Check.same("one number less", x.heldBy(2), 0);
        Check.same("the only one", x.drop(0), 0);
        Check.same("is gone", x.begin(2), 0);
        Check.index("none is left", () -> x.drop(0));
    }

    private static void finishDays() {
        Check.part("promise 11: begin and end 0 to 999, end not less than begin");
        SlipwayPlan x = daily(3);
        Check.argument("-1, 0", () -> x.finish(0, -1, 0));
        Check.argument("0, -1", () -> x.finish(0, 0, -1));
        Check.same("0, 0", x.finish(0, 0, 0), false);
        Check.same("end", x.end(0), 0);
        Check.same("5, 5", x.finish(0, 5, 5), true);
        Check.argument("5, 4", () -> x.finish(0, 5, 4));
        Check.same("end", x.end(0), 5);
        Check.same("5, 6", x.finish(0, 5, 6), true);
        Check.same("end", x.end(0), 6);
        Check.same("0, 999", x.finish(0, 0, 999), true);
        Check.argument("0, 1000", () -> x.finish(0, 0, 1000));
        Check.same("end", x.end(0), 999);
        Check.same("999, 999", x.finish(0, 999, 999), true);
        Check.argument("999, 998", () -> x.finish(0, 999, 998));
        Check.argument("1000, 1000", () -> x.finish(0, 1000, 1000));
        Check.same("begin", x.begin(0), 999);
        Check.index("task 1", () -> x.finish(1, 0, 0));
        Check.index("task -1", () -> x.finish(-1, 0, 0));
    }

    private static void reopenTwice() {
        Check.part("promise 12: done and not done");
        SlipwayPlan x = daily(3);
        Check.same("not done", x.reopen(0), false);
        Check.same("was not done", x.finish(0, 5, 6), false);
        Check.same("done", x.reopen(0), true);
        Check.same("not done any more", x.reopen(0), false);
        Check.same("its begin is as if it never was", x.begin(0), 0);
        Check.same("was not done", x.finish(0, 7, 8), false);
        Check.same("by its new days", x.begin(0), 7);
        Check.index("task 1", () -> x.reopen(1));
        Check.index("task -1", () -> x.reopen(-1));
    }

    private static void rules() {
        Check.part("promise 13: rules 0 to 3");
        SlipwayPlan x = new SlipwayPlan();
        Check.argument("-1", () -> x.setRule(-1));
        Check.same("0", x.setRule(0), 0);
        Check.same("3", x.setRule(3), 0);
        Check.argument("4", () -> x.setRule(4));
        Check.same("3 stands", x.setRule(0), 3);
    }

    private static void worksDays() {
        Check.part("promise 16: days 0 to 9999");
        SlipwayPlan x = new SlipwayPlan();
        Check.argument("-1", () -> x.works(0, -1));
        Check.same("0", x.works(0, 0), true);
        Check.same("9998 is of weekday 2", x.works(0, 9998), true);
        Check.same("9999 is of weekday 3", x.works(0, 9999), true);
        Check.argument("10000", () -> x.works(0, 10000));
        x.setWeek(0, 8);
        Check.same("9999 by weekday 3 alone", x.works(0, 9999), true);
        Check.same("9998 by weekday 3 alone", x.works(0, 9998), false);
        x.setWeek(3, 1);
        Check.same("calendar 3 on 0", x.works(3, 0), true);
        Check.same("calendar 3 on 6", x.works(3, 6), false);
        Check.same("calendar 3 on 7", x.works(3, 7), true);
        Check.index("calendar 4", () -> x.works(4, 0));
    }

    // ---- early

    private static void earlyFirst() {
        Check.part("promise 17: not ahead of its first day, on a day worked on");
        SlipwayPlan x = weekly(1, 0);
        int[] due = {0, 1, 2, 3, 4, 7, 7, 7, 8};
        for (int first = 0; first < due.length; first++) {
            x.setTerms(0, 0, first);
            x.setTerms(1, 0, first);
            Check.same("first " + first, x.earlyBegin(0), due[first]);
            Check.same("first " + first + ", without a length", x.earlyBegin(1), first);
        }
        x.setTerms(0, 0, 0);
        x.setTerms(1, 0, 0);
        for (int day : new int[] {0, 1, 2, 3, 4, 7, 8, 9, 10, 11, 14, 15}) {
            x.setFree(0, day, true);
        }
        Check.same("behind 12 free days", x.earlyBegin(0), 16);
        Check.same("on a free day, without a length", x.earlyBegin(1), 0);
        x.setFree(0, 15, false);
        Check.same("behind 11 free days", x.earlyBegin(0), 15);
    }

    private static void earlyFirstAtItsGreatest() {
        Check.part("promise 17: a first day of 999, which is of weekday 5");
        SlipwayPlan x = weekly(1, 20, 0);
        for (int task = 0; task < 3; task++) {
            x.setTerms(task, 0, 999);
        }
        Check.same("one day", x.earlyBegin(0), 1001);
        Check.same("its end", x.earlyEnd(0), 1002);
        Check.same("20 days", x.earlyBegin(1), 1001);
        Check.same("four weeks", x.earlyEnd(1), 1027);
        Check.same("without a length", x.earlyEnd(2), 999);
        x.setTerms(0, 0, 998);
        Check.same("998 is worked on", x.earlyBegin(0), 998);
    }

    private static void earlyEnds() {
        Check.part("promise 18: right behind the last day worked on");
        SlipwayPlan x = weekly(0);
        int[] due = {0, 1, 2, 3, 4, 5, 8, 9, 10, 11, 12, 15};
        for (int length = 0; length < due.length; length++) {
            x.setLength(0, length);
            Check.same("length " + length, x.earlyEnd(0), due[length]);
        }
        x.setLength(0, 20);
        Check.same("length 20", x.earlyEnd(0), 26);
        x.setLength(0, 4);
        x.setFree(0, 4, true);
        Check.same("ahead of a free day", x.earlyEnd(0), 4);
        x.setFree(0, 3, true);
        Check.same("over free days and the week's end", x.earlyEnd(0), 8);
    }

    private static void earlyBehind() {
        Check.part("promise 17: behind");
        SlipwayPlan x = daily(3, 2);
        x.link(0, 1, 0, 0);
        Check.same("lag 0", x.earlyBegin(1), 3);
        x.setTerms(1, 0, 3);
        Check.same("first is the same day", x.earlyBegin(1), 3);
        x.setTerms(1, 0, 2);
        Check.same("first is a day ahead", x.earlyBegin(1), 3);
        x.setTerms(1, 0, 4);
        Check.same("first is a day later", x.earlyBegin(1), 4);
        x.link(0, 1, 0, 1);
        Check.same("a lag to the same day", x.earlyBegin(1), 4);
        x.link(0, 1, 0, 2);
        Check.same("a lag to a day later", x.earlyBegin(1), 5);
        x.link(0, 1, 0, 20);
        Check.same("lag 20", x.earlyBegin(1), 23);
        x.setLength(0, 0);
        Check.same("behind one without a length", x.earlyBegin(1), 20);
    }

    private static void earlyBeside() {
        Check.part("promise 17: beside");
        SlipwayPlan x = daily(3, 2);
        x.setTerms(0, 0, 4);
        x.link(0, 1, 1, 0);
        Check.same("lag 0", x.earlyBegin(1), 4);
        x.setLength(0, 20);
        Check.same("whatever its end is", x.earlyBegin(1), 4);
        x.link(0, 1, 1, 1);
        Check.same("lag 1", x.earlyBegin(1), 5);
        x.link(0, 1, 1, 20);
        Check.same("lag 20", x.earlyBegin(1), 24);
    }

    private static void earlyTogether() {
        Check.part("promise 18: together");
        SlipwayPlan x = daily(4, 2);
        x.link(0, 1, 2, 0);
        Check.same("ends on the day itself", x.earlyEnd(1), 4);
        Check.same("begins 2 ahead", x.earlyBegin(1), 2);
        x.setLength(1, 4);
        Check.same("as long as that", x.earlyBegin(1), 0);
        Check.same("as long as that: end", x.earlyEnd(1), 4);
        x.setLength(1, 5);
        Check.same("a day longer", x.earlyBegin(1), 0);
        Check.same("a day longer: end", x.earlyEnd(1), 5);
        x.setLength(1, 3);
        Check.same("a day shorter", x.earlyBegin(1), 1);
        x.setTerms(1, 0, 1);
        Check.same("first is the same day", x.earlyBegin(1), 1);
        x.setTerms(1, 0, 2);
        Check.same("first is a day later", x.earlyEnd(1), 5);
        x.setLength(1, 0);
        Check.same("without a length", x.earlyBegin(1), 4);
        x.link(0, 1, 2, 20);
        Check.same("lag 20", x.earlyBegin(1), 24);
        x.setLength(1, 1);
        Check.same("lag 20, one day", x.earlyBegin(1), 23);
    }

    private static void earlyOverTheWeekend() {
        Check.part("promise 17: links to days not worked on");
        SlipwayPlan x = weekly(5, 1, 0);
        x.link(0, 1, 0, 0);
        x.link(0, 2, 0, 0);
        Check.same("behind: the first day of the next week", x.earlyBegin(1), 7);
        Check.same("behind, without a length: the day itself", x.earlyBegin(2), 5);
        x.link(0, 1, 0, 2);
        Check.same("lag 2 asks the same", x.earlyBegin(1), 7);
        x.link(0, 1, 0, 3);
        Check.same("lag 3 asks a day more", x.earlyBegin(1), 8);
        SlipwayPlan y = weekly(1, 1);
        y.link(0, 1, 1, 4);
        Check.same("beside: the last day of the week", y.earlyBegin(1), 4);
        y.link(0, 1, 1, 5);
        Check.same("beside: the next week", y.earlyBegin(1), 7);
    }

    private static void earlyTogetherOverTheWeekend() {
        Check.part("promise 18: together, over days not worked on");
        // what ends on 5, and with a lag of 1 to 4 on 6 to 9
        int[][] begins = {{4, 7, 7, 7, 8}, {3, 4, 4, 4, 7}, {0, 1, 1, 1, 2}, {0, 0, 0, 0, 1}, {0, 0, 0, 0, 0}};
        int[][] ends = {{5, 8, 8, 8, 9}, {5, 8, 8, 8, 9}, {5, 8, 8, 8, 9}, {8, 8, 8, 8, 9}, {9, 9, 9, 9, 9}};
        int[] lengths = {1, 2, 5, 6, 7};
        for (int at = 0; at < lengths.length; at++) {
            for (int lag = 0; lag < 5; lag++) {
                SlipwayPlan x = weekly(5, lengths[at], 0);
                x.link(0, 1, 2, lag);
                x.link(0, 2, 2, lag);
                String what = "length " + lengths[at] + ", lag " + lag;
                Check.same(what + ": begin", x.earlyBegin(1), begins[at][lag]);
                Check.same(what + ": end", x.earlyEnd(1), ends[at][lag]);
                Check.same(what + ": without a length", x.earlyBegin(2), 5 + lag);
            }
        }
    }

    private static void earlyOfDoneOnes() {
        Check.part("promise 17: done ones, whatever calendar, first and links tell");
        SlipwayPlan x = weekly(3, 3, 1);
        x.link(0, 1, 0, 20);
        x.setTerms(1, 0, 500);
        x.finish(1, 5, 6);
        Check.same("begin on a day not worked on", x.earlyBegin(1), 5);
        Check.same("end, whatever its length is", x.earlyEnd(1), 6);
        x.link(1, 2, 0, 1);
        Check.same("a link from it: behind", x.earlyBegin(2), 7);
        x.link(1, 2, 0, 2);
        Check.same("a link from it: a day more", x.earlyBegin(2), 8);
        x.link(1, 2, 1, 4);
        Check.same("a link from it: beside", x.earlyBegin(2), 9);
        x.link(1, 2, 2, 5);
        Check.same("a link from it: together", x.earlyEnd(2), 11);
        x.reopen(1);
        Check.same("by first again", x.earlyBegin(1), 500);
    }

    private static void lastDay() {
        Check.part("promise 22: 0 without any");
        SlipwayPlan x = daily();
        Check.same("none", x.last(), 0);
        x.addTask(0, 0);
        Check.same("one without a length", x.last(), 0);
        x.setLength(0, 1);
        Check.same("one of a day", x.last(), 1);
        x.addTask(1, 0);
        Check.same("two that end on the same day", x.last(), 1);
        x.setLength(1, 2);
        Check.same("one of them a day longer", x.last(), 2);
        x.finish(1, 0, 0);
        Check.same("done at once", x.last(), 1);
        x.finish(1, 999, 999);
        Check.same("done on 999", x.last(), 999);
    }

    /** One day a week is worked on, 24 tasks of 20 days behind one another: 154 days each, from 1000 on. */
    private static void theFurthestDay() {
        Check.part("24 tasks as far away as can be");
        SlipwayPlan x = new SlipwayPlan();
        x.setWeek(0, 64);
        for (int task = 0; task < 24; task++) {
            x.addTask(20, 0);
            x.setTerms(task, 0, 999);
            x.setNeed(task, 2, 9);
            if (task > 0) {
                x.link(task - 1, task, 0, 20);
            }
        }
        x.setCrew(2, 9, 99);
        Check.same("the first begin", x.earlyBegin(0), 1000);
        Check.same("the first end", x.earlyEnd(0), 1134);
        Check.same("the last begin", x.earlyBegin(23), 1000 + 23 * 154);
        Check.same("last", x.last(), 1134 + 23 * 154);
        Check.same("levelled last", x.levelledLast(), 4676);
        Check.same("all tight", x.tight(), 24);
        Check.same("wanted on the last day", x.wanted(2, 4675), 9);
        Check.same("used on the last day", x.used(2, 4675), 9);
        Check.same("wanted behind it", x.wanted(2, 4676), 0);
        Check.same("used behind it", x.used(2, 4676), 0);
        Check.same("idle", x.idle(2), 9 * (4676 - 480));
        Check.same("kept", x.keep(), 24);
        Check.same("worth", x.worth(), 24 * 20 * 9 * 99);
        Check.same("planned a day ahead of the end", x.planned(4675), 24 * 20 * 9 * 99 - 9 * 99);
        Check.same("planned up to the end", x.planned(4676), 24 * 20 * 9 * 99);
        Check.same("planned up to 9999", x.planned(9999), 24 * 20 * 9 * 99);
    }

    private static void wantedDays() {
        Check.part("promise 24: days 0 to 9999, from begin up to the day ahead of the end");
        SlipwayPlan x = weekly(6, 0);
        x.setTerms(0, 0, 1);
        x.setNeed(0, 3, 2);
        x.setNeed(1, 3, 9);
        int[] due = {0, 2, 2, 2, 2, 0, 0, 2, 2, 0};
        for (int day = 0; day < due.length; day++) {
            Check.same("on " + day, x.wanted(3, day), due[day]);
        }
        Check.argument("on -1", () -> x.wanted(3, -1));
        Check.same("on 9999", x.wanted(3, 9999), 0);
        Check.argument("on 10000", () -> x.wanted(3, 10000));
        Check.index("crew 4", () -> x.wanted(4, 0));
        Check.index("crew -1", () -> x.wanted(-1, 0));
    }

    private static void wantedOfDoneOnes() {
        Check.part("promise 24: done ones by their own days");
        SlipwayPlan x = weekly(0);
        x.setNeed(0, 0, 3);
        x.finish(0, 4, 8);
        int[] due = {0, 0, 0, 0, 3, 0, 0, 3, 0};
        for (int day = 0; day < due.length; day++) {
            Check.same("on " + day, x.wanted(0, day), due[day]);
        }
        x.finish(0, 4, 4);
        Check.same("without any days", x.wanted(0, 4), 0);
        x.finish(0, 4, 5);
        Check.same("one day", x.wanted(0, 4), 3);
        x.finish(0, 5, 7);
        Check.same("days not worked on", x.wanted(0, 5) + x.wanted(0, 6) + x.wanted(0, 7), 0);
        x.setWeek(0, 127);
        x.finish(0, 0, 999);
        Check.same("on 0", x.wanted(0, 0), 3);
        Check.same("on 998", x.wanted(0, 998), 3);
        Check.same("on 999", x.wanted(0, 999), 0);
        Check.same("overloaded by one of none", overloadedWith(x, 2), 999);
        Check.same("not overloaded", overloadedWith(x, 3), 0);
    }

    private static int overloadedWith(SlipwayPlan x, int size) {
        x.setCrew(0, size, 0);
        return x.overloaded(0);
    }

    private static void wantedAtMost() {
        Check.part("promise 24: 24 tasks of 9 on one day");
        SlipwayPlan x = new SlipwayPlan();
        for (int task = 0; task < 24; task++) {
            x.addTask(1, 0);
            x.setNeed(task, 1, 9);
        }
        Check.same("wanted", x.wanted(1, 0), 216);
        Check.same("overloaded", x.overloaded(1), 1);
        Check.same("used", x.used(1, 0), 9);
        Check.same("24 days one by one", x.levelledLast(), 32);
        for (int task = 0; task < 24; task++) {
            x.finish(task, 1, 2);
        }
        Check.same("used when all are done", x.used(1, 1), 216);
        Check.same("peak", x.peak(1), 216);
        Check.same("idle", x.idle(1), 9);
    }

    private static void overloadedByOne() {
        Check.part("promise 25: more than its size");
        SlipwayPlan x = daily(3, 2);
        x.setNeed(0, 0, 4);
        x.setNeed(1, 0, 1);
        Check.same("size 9", overloadedWith(x, 9), 0);
        Check.same("as many as there are", overloadedWith(x, 5), 0);
        Check.same("one less", overloadedWith(x, 4), 2);
        Check.same("one less again", overloadedWith(x, 3), 3);
        Check.same("size 0", overloadedWith(x, 0), 3);
        Check.same("of which none is needed", x.overloaded(3), 0);
        x.setCrew(3, 0, 0);
        Check.same("of which none is needed, and none there", x.overloaded(3), 0);
        Check.index("crew 4", () -> x.overloaded(4));
        Check.index("crew -1", () -> x.overloaded(-1));
    }

    // ---- late

    private static void lateEndsOnTheLastDay() {
        Check.part("promise 20: ends on the last day at the latest");
        SlipwayPlan x = daily(10, 9, 10, 1, 0);
        int[] begins = {0, 1, 0, 9, 10};
        for (int task = 0; task < 5; task++) {
            Check.same("begin of " + task, x.lateBegin(task), begins[task]);
            Check.same("end of " + task, x.lateEnd(task), 10);
        }
        Check.same("the last day", x.last(), 10);
        x.setLength(1, 11);
        Check.same("one day more: begin", x.lateBegin(0), 1);
        Check.same("one day more: begin of that", x.lateBegin(1), 0);
        SlipwayPlan y = daily(0);
        Check.same("without a length, alone: begin", y.lateBegin(0), 0);
        Check.same("without a length, alone: end", y.lateEnd(0), 0);
    }

    private static void lateByLinks() {
        Check.part("promise 19: what links ask, by late begins and ends");
        // task 1 is late from 8 to 10; task 2, of 2 days, has its late begin by the link alone
        int[][] due = {{6, 5, 0, 0}, {8, 7, 2, 1}, {8, 7, 2, 1}};
        int[] lags = {0, 1, 6, 7};
        for (int kind = 0; kind < 3; kind++) {
            for (int at = 0; at < lags.length; at++) {
                SlipwayPlan x = daily(10, 2, 2);
                x.link(2, 1, kind, lags[at]);
                Check.same("kind " + kind + ", lag " + lags[at], x.lateBegin(2), due[kind][at]);
                Check.same("what it goes to", x.lateBegin(1), kind == 0 && lags[at] == 7 ? 9 : 8);
            }
        }
        SlipwayPlan y = daily(10, 2, 0);
        y.link(2, 1, 0, 3);
        Check.same("behind, without a length", y.lateBegin(2), 5);
        y.link(2, 1, 1, 4);
        Check.same("beside, without a length", y.lateBegin(2), 4);
        y.link(2, 1, 2, 7);
        Check.same("together, without a length", y.lateBegin(2), 3);
        y.link(2, 1, 2, 6);
        Check.same("the one that asks most", y.lateBegin(2), 3);
    }

    private static void lateByCalendars() {
        Check.part("promise 19: on a day worked on");
        int[] lasts = {5, 6, 7, 8, 9};
        int[][] due = {{4, 4, 4, 7, 8}, {3, 3, 3, 4, 7}, {0, 0, 0, 1, 2}};
        int[] lengths = {1, 2, 5};
        for (int at = 0; at < lengths.length; at++) {
            for (int last = 0; last < lasts.length; last++) {
                SlipwayPlan x = weekly(lengths[at], 0);
                x.addTask(0, 1);
                x.setTerms(2, 0, lasts[last]);
                Check.same("length " + lengths[at] + " up to " + lasts[last], x.lateBegin(0), due[at][last]);
                Check.same("without a length", x.lateBegin(1), lasts[last]);
            }
        }
        SlipwayPlan y = weekly(1, 1);
        y.setWeek(1, 127);
        y.addTask(7, 1);
        y.link(0, 1, 1, 0);
        Check.same("beside one that begins on 4", y.lateBegin(0), 4);
        y.setFree(0, 4, true);
        Check.same("both a day ahead", y.lateBegin(0), 3);
    }

    private static void lateOfDoneOnes() {
        Check.part("promise 19: links to done ones ask nothing; of those their own");
        SlipwayPlan x = daily(10, 2, 1);
        x.link(2, 1, 0, 0);
        Check.same("while it is not done", x.lateEnd(2), 8);
        x.finish(1, 3, 4);
        Check.same("done", x.lateEnd(2), 10);
        Check.same("its own begin", x.lateBegin(1), 3);
        Check.same("its own end", x.lateEnd(1), 4);
        x.finish(1, 12, 13);
        Check.same("it makes the last day", x.lateEnd(0), 13);
        Check.same("its own end then", x.lateEnd(1), 13);
        x.reopen(1);
        Check.same("not done any more", x.lateEnd(2), 8);
    }

    /** Also with the first days at their greatest, and where a task is linked to one that must end early. */
    private static void lateIsNeverAheadOfEarly() {
        Check.part("promise 19: never ahead of its early begin");
        SlipwayPlan x = weekly(3, 4, 0, 2);
        x.link(0, 1, 2, 3);
        x.link(1, 2, 0, 0);
        x.link(2, 3, 1, 1);
        for (int first = 0; first < 10; first++) {
            x.setTerms(first % 4, 0, first);
            for (int task = 0; task < 4; task++) {
                Check.holds("begin of " + task, x.lateBegin(task) >= x.earlyBegin(task));
                Check.holds("end of " + task, x.lateEnd(task) >= x.earlyEnd(task));
                Check.holds("not behind the last day", x.lateEnd(task) <= x.last());
            }
        }
        SlipwayPlan y = daily(5);
        Check.same("the only one: begin", y.lateBegin(0), y.earlyBegin(0));
        y.setTerms(0, 0, 999);
        Check.same("the only one, at 999", y.lateBegin(0), 999);
    }

    private static void roomNoneAndOne() {
        Check.part("promise 21: no room, and one day of it");
        SlipwayPlan x = daily(10, 10, 9);
        Check.same("of the longest", x.room(0), 0);
        Check.same("as long", x.room(1), 0);
        Check.same("a day shorter", x.room(2), 1);
        x.setTerms(2, 0, 1);
        Check.same("first takes it", x.room(2), 0);
        x.setTerms(2, 0, 2);
        Check.same("first makes the last day", x.room(0), 1);
        x.finish(2, 0, 0);
        Check.same("of one that is done", x.room(2), 0);
        x.setLength(0, 1);
        Check.same("nine days of it", x.room(0), 9);
        Check.index("task 3", () -> x.room(3));
    }

    private static void roomCountsDays() {
        Check.part("promise 21: days on which its calendar works; without a length each day");
        SlipwayPlan x = weekly(6, 5, 4, 0);
        Check.same("the longest, up to 8", x.room(0), 0);
        Check.same("begins on 1 at the latest", x.room(1), 1);
        Check.same("begins on 2 at the latest", x.room(2), 2);
        Check.same("each day up to 7", x.room(3), 8);
        x.setLength(2, 1);
        Check.same("from 0 up to 6: 5 days worked on", x.room(2), 5);
        x.setTerms(2, 0, 4);
        Check.same("from 4 up to 6: one", x.room(2), 1);
        x.setTerms(2, 0, 5);
        Check.same("begins on 7, not sooner", x.room(2), 0);
        x.setTerms(3, 0, 5);
        Check.same("from 5 up to 7, without a length", x.room(3), 3);
        x.setTerms(3, 0, 8);
        Check.same("none, without a length", x.room(3), 0);
        x.setTerms(2, 0, 0);
        x.setFree(0, 2, true);
        Check.same("the longest ends on 9; a free day counts not", x.room(2), 5);
    }

    private static void tightNoneAndOne() {
        Check.part("promise 23: none, one, all");
        SlipwayPlan x = daily();
        Check.same("without tasks", x.tight(), 0);
        x.addTask(5, 0);
        Check.same("the only one", x.tight(), 1);
        x.addTask(4, 0);
        Check.same("a day of room", x.tight(), 1);
        x.setLength(1, 5);
        Check.same("no room", x.tight(), 2);
        x.finish(1, 0, 5);
        Check.same("done", x.tight(), 1);
        x.finish(1, 0, 6);
        Check.same("done a day later", x.tight(), 0);
        x.finish(0, 0, 1);
        Check.same("all done", x.tight(), 0);
        x.addTask(0, 0);
        Check.same("without a length, ahead of the last day", x.tight(), 0);
        x.setTerms(2, 0, 6);
        Check.same("without a length, on the last day", x.tight(), 1);
    }

    // ---- levelled

    private static void handsLeftJustSo() {
        Check.part("promise 26: as many left as it needs");
        SlipwayPlan x = daily(2, 1);
        x.setCrew(0, 5, 0);
        x.setNeed(0, 0, 3);
        x.finish(0, 0, 2);
        int[] due = {0, 0, 0, 2, 2, 2};
        for (int needs = 0; needs < due.length; needs++) {
            x.setNeed(1, 0, needs);
            Check.same("needs " + needs + " of 2 that are left", x.begin(1), due[needs]);
        }
        x.setNeed(0, 0, 5);
        x.setNeed(1, 0, 1);
        Check.same("none is left", x.begin(1), 2);
        x.setNeed(0, 0, 9);
        Check.same("less than none is left", x.begin(1), 2);
        x.setNeed(1, 0, 0);
        Check.same("less than none is left, but it needs none", x.begin(1), 0);
        x.setNeed(1, 3, 9);
        Check.same("all of another crew", x.begin(1), 0);
        x.setNeed(0, 3, 1);
        Check.same("one too many of another crew", x.begin(1), 2);
    }

    private static void gapsJustSo() {
        Check.part("promise 26: on each day that it is worked on");
        SlipwayPlan x = oneHanded(1, 1, 2);
        x.finish(0, 0, 2);
        x.finish(1, 4, 6);
        Check.same("as long as the gap", x.begin(2), 2);
        x.setLength(2, 3);
        Check.same("a day longer", x.begin(2), 6);
        x.setLength(2, 0);
        Check.same("without a length", x.begin(2), 0);
        x.setLength(2, 1);
        Check.same("the gap's first day", x.begin(2), 2);
        x.setWeek(1, 127 - 16);
        x.addTask(3, 1);
        x.setNeed(3, 0, 1);
        x.finish(1, 4, 5);
        x.finish(2, 999, 999);
        Check.same("its calendar does not work where the hand is used", x.begin(3), 2);
        Check.same("its end is behind that", x.end(3), 6);
        x.finish(1, 4, 6);
        Check.same("a day more is used", x.begin(3), 6);
    }

    private static void gapsByLinksAndFirst() {
        Check.part("promise 26: by first and links, and hands");
        SlipwayPlan x = oneHanded(1, 1, 2, 1);
        x.finish(0, 0, 2);
        x.finish(1, 5, 7);
        x.setNeed(3, 0, 0);
        x.setTerms(2, 0, 3);
        Check.same("the gap's last two days", x.begin(2), 3);
        x.setTerms(2, 0, 4);
        Check.same("a day too late", x.begin(2), 7);
        x.setTerms(2, 0, 0);
        x.link(3, 2, 0, 2);
        Check.same("a link to the gap's last two days", x.begin(2), 3);
        x.link(3, 2, 2, 4);
        Check.same("together, ends on 5", x.begin(2), 3);
        x.link(3, 2, 2, 5);
        Check.same("together, would end on 6", x.begin(2), 7);
        x.drop(2);
        x.link(3, 2, 0, 3);
        Check.same("a link a day too late", x.begin(2), 7);
    }

    private static void stuckByOne() {
        Check.part("promise 29: needs more than its size");
        SlipwayPlan x = daily(1);
        for (int crew = 0; crew < 4; crew++) {
            x.setNeed(0, crew, 4);
            x.setCrew(crew, 4, 0);
            Check.same("as many", x.stuck(), 0);
            Check.same("as many: begin", x.begin(0), 0);
            x.setCrew(crew, 3, 0);
            Check.same("one more", x.stuck(), 1);
            Check.same("one more: begin", x.begin(0), -1);
            Check.same("one more: end", x.end(0), -1);
            x.setLength(0, 0);
            Check.same("without a length", x.stuck(), 0);
            x.setLength(0, 1);
            x.finish(0, 2, 3);
            Check.same("done", x.stuck(), 0);
            Check.same("done: begin", x.begin(0), 2);
            x.reopen(0);
            x.setNeed(0, crew, 0);
            x.setCrew(crew, 0, 0);
            Check.same("none of none", x.stuck(), 0);
        }
        x.setNeed(0, 0, 1);
        Check.same("one of none", x.stuck(), 1);
        Check.same("without any", new SlipwayPlan().stuck(), 0);
    }

    private static void stuckBehind() {
        Check.part("promise 29: nor what a link goes to from it");
        for (int kind = 0; kind < 3; kind++) {
            SlipwayPlan x = daily(1, 0, 1, 1, 1);
            x.setNeed(0, 0, 2);
            x.setCrew(0, 1, 0);
            x.link(0, 1, kind, 0);
            x.link(1, 2, kind, 0);
            x.link(3, 2, kind, 0);
            x.link(3, 4, kind, 0);
            Check.same("itself and two", x.stuck(), 3);
            Check.same("the last one of them", x.begin(2), -1);
            Check.same("what is ahead of it", x.begin(3), 0);
            Check.same("what is beside it", x.holds(4), kind == 0 ? 1 : 0);
            x.setCrew(0, 2, 0);
            Check.same("none", x.stuck(), 0);
        }
    }

    private static void stuckAndDone() {
        Check.part("promise 29: done ones are never stuck, nor is what is behind them");
        SlipwayPlan x = daily(1, 1, 1);
        x.setCrew(0, 1, 0);
        x.setNeed(0, 0, 2);
        x.link(0, 1, 0, 0);
        x.link(1, 2, 0, 0);
        Check.same("all three", x.stuck(), 3);
        x.finish(0, 0, 1);
        Check.same("none", x.stuck(), 0);
        Check.same("behind it", x.begin(1), 1);
        x.reopen(0);
        x.finish(2, 0, 1);
        Check.same("two", x.stuck(), 2);
        Check.same("the done one behind stuck ones", x.begin(2), 0);
        x.finish(1, 7, 8);
        Check.same("one", x.stuck(), 1);
    }

    private static void levelledLastNoneAndOne() {
        Check.part("promise 28: 0 without any");
        SlipwayPlan x = daily();
        Check.same("no tasks", x.levelledLast(), 0);
        x.addTask(0, 0);
        Check.same("one without a length", x.levelledLast(), 0);
        x.addTask(1, 0);
        Check.same("one of a day", x.levelledLast(), 1);
        x.setNeed(1, 0, 1);
        x.setCrew(0, 0, 0);
        Check.same("it is stuck", x.levelledLast(), 0);
        Check.same("but not in early", x.last(), 1);
        x.setTerms(0, 0, 999);
        Check.same("without a length, at 999", x.levelledLast(), 999);
        x.setTerms(0, 0, 0);
        x.finish(1, 999, 999);
        Check.same("done at 999", x.levelledLast(), 999);
    }

    private static void orderPlaces() {
        Check.part("promise 30: places");
        SlipwayPlan x = oneHanded(1, 1, 1, 1);
        Check.index("-1", () -> x.orderAt(-1));
        for (int place = 0; place < 4; place++) {
            Check.same("place " + place, x.orderAt(place), place);
        }
        Check.index("4", () -> x.orderAt(4));
        x.setNeed(1, 0, 2);
        Check.same("the last place", x.orderAt(2), 3);
        Check.index("one is stuck", () -> x.orderAt(3));
        x.finish(3, 0, 0);
        x.finish(1, 9, 9);
        Check.same("done ones by their numbers", x.orderAt(0), 1);
        Check.same("done ones by their numbers", x.orderAt(1), 3);
        Check.same("then others", x.orderAt(2), 0);
        Check.same("the last place", x.orderAt(3), 2);
        Check.index("behind it", () -> x.orderAt(4));
        x.setCrew(0, 0, 0);
        Check.same("the last place", x.orderAt(1), 3);
        Check.index("all others are stuck", () -> x.orderAt(2));
    }

    private static void orderOfEqualOnes() {
        Check.part("promise 30: of several the smallest number");
        for (int rule = 0; rule < 4; rule++) {
            SlipwayPlan x = oneHanded(2, 2, 2);
            x.setRule(rule);
            for (int place = 0; place < 3; place++) {
                Check.same("rule " + rule + ", place " + place, x.orderAt(place), place);
            }
            x.link(2, 0, 2, 0);
            x.link(0, 1, 2, 0);
            Check.same("rule " + rule + ", links come first", x.orderAt(0), 2);
            Check.same("rule " + rule + ", links come first", x.orderAt(1), 0);
            Check.same("rule " + rule + ", links come first", x.orderAt(2), 1);
        }
    }

    private static void orderByOneMore() {
        Check.part("promise 30: by one more or less");
        SlipwayPlan x = daily(4, 3, 2, 1);
        x.setTerms(0, 0, 0);
        x.setTerms(1, 8, 1);
        x.setTerms(2, 9, 1);
        x.setTerms(3, 9, 2);
        // late begins 0, 1, 2, 3; rooms 0, 0, 1, 1
        orders(x, 0, 0, 1, 2, 3);
        orders(x, 1, 0, 1, 2, 3);
        orders(x, 2, 2, 3, 1, 0);
        orders(x, 3, 0, 1, 2, 3);
        x.setTerms(0, 9, 0);
        x.setTerms(1, 8, 0);
        x.setTerms(2, 9, 2);
        x.setTerms(3, 0, 3);
        // late begins 0, 1, 2, 3; rooms 0, 1, 0, 0
        orders(x, 1, 0, 2, 3, 1);
        orders(x, 2, 0, 2, 1, 3);
        x.setLength(3, 4);
        x.setTerms(3, 0, 0);
        // late begins 0, 1, 2, 0
        orders(x, 0, 0, 3, 1, 2);
        orders(x, 3, 0, 3, 1, 2);
    }

    private static void orders(SlipwayPlan x, int rule, int... due) {
        x.setRule(rule);
        for (int place = 0; place < due.length; place++) {
            Check.same("rule " + rule + ", place " + place, x.orderAt(place), due[place]);
        }
    }

    private static void usedDays() {
        Check.part("promise 31: days 0 to 9999, from begin up to the day ahead of the end");
        SlipwayPlan x = weekly(6, 0, 1);
        x.setTerms(0, 0, 1);
        x.setNeed(0, 3, 2);
        x.setNeed(1, 3, 9);
        int[] due = {0, 2, 2, 2, 2, 0, 0, 2, 2, 0};
        for (int day = 0; day < due.length; day++) {
            Check.same("on " + day, x.used(3, day), due[day]);
        }
        Check.argument("on -1", () -> x.used(3, -1));
        Check.same("on 9999", x.used(3, 9999), 0);
        Check.argument("on 10000", () -> x.used(3, 10000));
        x.setCrew(3, 1, 0);
        Check.same("by one that is stuck", x.used(3, 1), 0);
        Check.same("wanted all the same", x.wanted(3, 1), 2);
        x.finish(0, 2, 5);
        int[] then = {0, 0, 2, 2, 2, 0};
        for (int day = 0; day < then.length; day++) {
            Check.same("done, on " + day, x.used(3, day), then[day]);
        }
        x.finish(0, 2, 2);
        Check.same("done, without any days", x.used(3, 2), 0);
        Check.index("crew 4", () -> x.used(4, 0));
        Check.index("crew -1", () -> x.used(-1, 0));
    }

    private static void peakNoneAndMore() {
        Check.part("promise 32: none, its size, more by done ones");
        SlipwayPlan x = daily(2, 2);
        Check.same("none", x.peak(0), 0);
        x.setNeed(0, 0, 5);
        x.setNeed(1, 0, 4);
        Check.same("as many as there are", x.peak(0), 9);
        x.setCrew(0, 8, 0);
        Check.same("not at once any more", x.peak(0), 5);
        x.finish(0, 0, 2);
        x.finish(1, 1, 2);
        Check.same("at once as they are done", x.peak(0), 9);
        x.finish(1, 2, 2);
        Check.same("without any days", x.peak(0), 5);
        Check.same("crew 3", x.peak(3), 0);
        Check.index("crew 4", () -> x.peak(4));
        Check.index("crew -1", () -> x.peak(-1));
    }

    private static void holdsByOneDay() {
        Check.part("promise 33: behind G, behind F, or on it");
        SlipwayPlan x = oneHanded(1, 1);
        Check.same("on G and on F", x.holds(0), 0);
        Check.same("a day behind G", x.holds(1), 2);
        x.setTerms(1, 0, 1);
        Check.same("first tells the same day", x.holds(1), 0);
        x.setTerms(1, 0, 0);
        x.link(0, 1, 0, 0);
        Check.same("a link tells the same day: on G, a day behind F", x.holds(1), 1);
        x.setTerms(1, 0, 1);
        Check.same("both do: on F", x.holds(1), 0);
        x.link(0, 1, 0, 1);
        Check.same("a day behind F", x.holds(1), 1);
        x.addTask(1, 0);
        x.finish(2, 2, 3);
        x.setNeed(2, 0, 1);
        Check.same("a day behind G again", x.holds(1), 2);
        Check.same("done", x.holds(2), -1);
        x.setNeed(1, 0, 2);
        Check.same("stuck", x.holds(1), -1);
        x.setLength(1, 0);
        Check.same("without a length it needs none", x.holds(1), 1);
        Check.index("task 3", () -> x.holds(3));
    }

    private static void holdsOverTheWeekend() {
        Check.part("promise 33: G and F are such as it can begin on");
        SlipwayPlan x = weekly(5, 1);
        x.link(0, 1, 0, 0);
        x.setTerms(1, 0, 4);
        Check.same("F is 4, G is 7", x.holds(1), 1);
        x.setTerms(1, 0, 5);
        Check.same("F is 7, as G is", x.holds(1), 0);
        x.setLength(1, 0);
        Check.same("without a length F is 5, as G is", x.holds(1), 0);
        x.setTerms(1, 0, 4);
        Check.same("without a length F is 4, G is 5", x.holds(1), 1);
        SlipwayPlan y = weekly(5, 1);
        y.setCrew(0, 1, 0);
        y.setNeed(0, 0, 1);
        y.setNeed(1, 0, 1);
        y.finish(0, 3, 7);
        y.setTerms(1, 0, 3);
        Check.same("G is 3, but the hand is used", y.holds(1), 2);
        Check.same("it begins on 7", y.begin(1), 7);
        y.setTerms(1, 0, 5);
        Check.same("G is 7 itself", y.holds(1), 0);
    }

    private static void heldByTheSmallest() {
        Check.part("promise 34: the smallest number, not one that is a day short");
        SlipwayPlan x = daily(3, 2, 3, 1);
        Check.same("none", x.heldBy(3), -1);
        x.link(1, 3, 0, 0);
        Check.same("the only one", x.heldBy(3), 0);
        x.link(0, 3, 0, 0);
        Check.same("the first one is a day short", x.heldBy(3), 1);
        x.link(2, 3, 0, 0);
        Check.same("the next one does, too", x.heldBy(3), 1);
        x.setLength(1, 3);
        Check.same("now the first one does", x.heldBy(3), 0);
        x.setTerms(3, 0, 3);
        Check.same("first does itself", x.heldBy(3), -1);
        x.setTerms(3, 0, 2);
        Check.same("first is a day short", x.heldBy(3), 0);
        x.drop(0);
        Check.same("one number less", x.heldBy(3), 0);
        Check.same("of a task without links to it", x.heldBy(0), -1);
        Check.index("task 4", () -> x.heldBy(4));
        SlipwayPlan y = weekly(4, 1);
        y.link(0, 1, 0, 1);
        y.link(0, 1, 0, 3);
        Check.same("both come to day 7", y.heldBy(1), 0);
        y.link(0, 1, 0, 4);
        Check.same("one comes to day 8", y.heldBy(1), 2);
        y.setFree(0, 7, true);
        Check.same("all come to day 8", y.heldBy(1), 0);
    }

    private static void heldByTogether() {
        Check.part("promise 34: by an end that is asked for");
        SlipwayPlan x = daily(6, 4, 3, 2);
        x.link(0, 3, 2, 0);
        x.link(1, 3, 0, 0);
        Check.same("both come to day 4", x.heldBy(3), 0);
        x.setLength(1, 5);
        Check.same("behind comes to day 5", x.heldBy(3), 1);
        x.setLength(1, 3);
        Check.same("behind comes to day 3", x.heldBy(3), 0);
        x.setLength(3, 6);
        Check.same("as long as that: together asks nothing of it", x.heldBy(3), 1);
        x.setLength(1, 0);
        Check.same("nothing holds it", x.heldBy(3), -1);
        x.setLength(3, 5);
        Check.same("a day shorter", x.heldBy(3), 0);
    }

    private static void idleNone() {
        Check.part("promise 35: up to levelledLast(), that one not counted; never less than 0");
        SlipwayPlan x = daily(2);
        x.setCrew(0, 3, 0);
        Check.same("none used", x.idle(0), 6);
        x.setNeed(0, 0, 2);
        Check.same("2 of 3", x.idle(0), 2);
        x.setNeed(0, 0, 3);
        Check.same("all used", x.idle(0), 0);
        x.setNeed(0, 0, 4);
        Check.same("stuck: no days", x.idle(0), 0);
        x.finish(0, 1, 3);
        Check.same("more than all used: of day 0 alone", x.idle(0), 3);
        x.finish(0, 1, 1);
        Check.same("up to day 1", x.idle(0), 3);
        x.finish(0, 0, 0);
        Check.same("no days", x.idle(0), 0);
        x.setCrew(0, 0, 0);
        x.finish(0, 0, 9);
        Check.same("of size 0", x.idle(0), 0);
        x.setWeek(0, 31);
        Check.same("of another, on days not worked on, too", x.idle(3), 81);
        Check.index("crew 4", () -> x.idle(4));
        Check.index("crew -1", () -> x.idle(-1));
    }

    // ---- kept, and done

    private static void keepNoneAndAll() {
        Check.part("promise 36: none, one, all");
        SlipwayPlan x = new SlipwayPlan();
        Check.same("none", x.keep(), 0);
        x.addTask(1, 0);
        Check.same("one", x.keep(), 1);
        x.setNeed(0, 0, 1);
        x.setCrew(0, 0, 0);
        Check.same("stuck", x.keep(), 0);
        x.finish(0, 0, 0);
        Check.same("done", x.keep(), 1);
        for (int task = 1; task < 24; task++) {
            x.addTask(task % 21, task % 4);
        }
        Check.same("24", x.keep(), 24);
    }

    private static void keptAreNotLaterOnes() {
        Check.part("promise 36: tasks that are added later are not in it; the next one kept counts");
        SlipwayPlan x = daily(2);
        x.setCrew(0, 9, 10);
        x.setNeed(0, 0, 1);
        x.keep();
        x.addTask(3, 0);
        x.setNeed(1, 0, 1);
        x.finish(1, 1, 4);
        Check.same("planned", x.planned(9999), 20);
        Check.same("earned", x.earned(), 0);
        Check.same("behind", x.behind(1), 0);
        x.setLength(0, 5);
        Check.same("as kept", x.planned(9999), 20);
        Check.same("behind what is kept", x.behind(0), 3);
        x.keep();
        Check.same("the next one: planned", x.planned(9999), 80);
        Check.same("the next one: earned", x.earned(), 30);
        Check.same("the next one: behind", x.behind(0), 0);
        x.setNeed(0, 1, 1);
        x.setCrew(1, 0, 0);
        x.keep();
        Check.same("without the one that is stuck now", x.planned(9999), 30);
        x.setCrew(1, 1, 0);
        Check.same("which is not kept", x.behind(0), 0);
    }

    private static void behindBothWays() {
        Check.part("promise 37: behind, ahead, as kept");
        SlipwayPlan x = daily(3, 2);
        x.link(0, 1, 0, 0);
        Check.same("not kept", x.behind(1), 0);
        x.keep();
        int[] due = {-3, -2, -1, 0, 1, 2};
        for (int length = 0; length < due.length; length++) {
            x.setLength(0, length);
            Check.same("length " + length, x.behind(1), due[length]);
        }
        x.setNeed(0, 0, 1);
        x.setCrew(0, 0, 0);
        Check.same("stuck", x.behind(1), 0);
        x.finish(1, 0, 0);
        Check.same("done, 5 days ahead", x.behind(1), -5);
        x.finish(1, 0, 999);
        Check.same("done, far behind", x.behind(1), 994);
        Check.index("task 2", () -> x.behind(2));
    }

    private static void plannedDays() {
        Check.part("promise 38: days that are ahead of that day");
        SlipwayPlan x = weekly(3);
        x.setTerms(0, 0, 3);
        x.setCrew(0, 9, 10);
        x.setNeed(0, 0, 1);
        Check.same("nothing kept", x.planned(9999), 0);
        x.keep();
        int[] due = {0, 0, 0, 0, 10, 20, 20, 20, 30, 30};
        for (int day = 0; day < due.length; day++) {
            Check.same("up to " + day, x.planned(day), due[day]);
        }
        Check.argument("up to -1", () -> x.planned(-1));
        Check.same("up to 9999", x.planned(9999), 30);
        Check.argument("up to 10000", () -> x.planned(10000));
        x.setLength(0, 0);
        x.keep();
        Check.same("without a length", x.planned(9999), 0);
    }

    /** A task of 2 days that was done in 3, worth 2 * price; each task's part is cut by itself. */
    private static void plannedCut() {
        Check.part("promise 38: cut");
        int[][] due = {{0, 0, 1, 2}, {0, 1, 2, 4}, {0, 2, 4, 6}, {0, 2, 5, 8}};
        for (int price = 1; price < 5; price++) {
            SlipwayPlan x = daily(2);
            x.setCrew(0, 9, price);
            x.setNeed(0, 0, 1);
            x.finish(0, 0, 3);
            x.keep();
            for (int day = 0; day < 4; day++) {
                Check.same("price " + price + ", up to " + day, x.planned(day), due[price - 1][day]);
            }
        }
        SlipwayPlan y = daily(2, 2, 2);
        y.setCrew(0, 9, 1);
        for (int task = 0; task < 3; task++) {
            y.setNeed(task, 0, 1);
            y.finish(task, 0, 3);
        }
        y.keep();
        Check.same("three times 2 / 3", y.planned(1), 0);
        Check.same("three times 4 / 3", y.planned(2), 3);
        Check.same("all", y.planned(3), 6);
    }

    private static void plannedOfDoneOnes() {
        Check.part("promise 38: all its days; without any that is 0");
        SlipwayPlan x = weekly(2);
        x.setCrew(0, 9, 10);
        x.setNeed(0, 0, 1);
        x.finish(0, 4, 4);
        x.keep();
        Check.same("no days at all", x.planned(9999), 0);
        Check.same("it is earned all the same", x.earned(), 20);
        x.finish(0, 5, 7);
        x.keep();
        Check.same("no days worked on", x.planned(9999), 0);
        x.finish(0, 4, 7);
        x.keep();
        Check.same("ahead of the only one", x.planned(4), 0);
        Check.same("behind the only one", x.planned(5), 20);
        x.finish(0, 0, 999);
        x.keep();
        // 999 days are 142 weeks of 5 days worked on, and 5 days more
        Check.same("one of 715 days", x.planned(1), 0);
        Check.same("35 of 715 days", x.planned(47), 0);
        Check.same("36 of 715 days", x.planned(50), 1);
        Check.same("all but one", x.planned(998), 19);
        Check.same("all", x.planned(999), 20);
        x.setLength(0, 0);
        x.finish(0, 0, 3);
        x.keep();
        Check.same("done, without a length", x.planned(9999), 0);
    }

    private static void plannedByKeptCalendars() {
        Check.part("promise 38: days on which its calendar worked as it was kept");
        SlipwayPlan x = weekly(3);
        x.setCrew(0, 9, 10);
        x.setNeed(0, 0, 1);
        x.setFree(0, 1, true);
        x.keep();
        x.setFree(0, 1, false);
        x.setFree(0, 0, true);
        x.setWeek(0, 64);
        int[] due = {0, 10, 10, 20, 30, 30};
        for (int day = 0; day < due.length; day++) {
            Check.same("up to " + day, x.planned(day), due[day]);
        }
        x.keep();
        Check.same("kept anew, up to 6", x.planned(6), 0);
        Check.same("kept anew, up to 7", x.planned(7), 10);
        Check.same("kept anew, up to 20", x.planned(20), 20);
        Check.same("kept anew, up to 21", x.planned(21), 30);
    }

    private static void earnedNoneAndAll() {
        Check.part("promise 39: none, one, all");
        SlipwayPlan x = daily(1, 2);
        x.setCrew(0, 9, 10);
        x.setNeed(0, 0, 1);
        x.setNeed(1, 0, 1);
        x.finish(0, 0, 0);
        Check.same("nothing kept", x.earned(), 0);
        x.reopen(0);
        x.keep();
        Check.same("none is done", x.earned(), 0);
        x.finish(0, 5, 5);
        Check.same("one is done", x.earned(), 10);
        x.finish(0, 6, 7);
        Check.same("done otherwise", x.earned(), 10);
        x.finish(1, 0, 1);
        Check.same("all are done", x.earned(), 30);
        x.reopen(0);
        x.reopen(1);
        Check.same("none again", x.earned(), 0);
    }

    private static void worthNoneAndMost() {
        Check.part("promise 40: none, one, the most");
        SlipwayPlan x = new SlipwayPlan();
        Check.same("no tasks", x.worth(), 0);
        x.addTask(1, 0);
        x.setNeed(0, 3, 1);
        Check.same("price 0", x.worth(), 0);
        x.setCrew(3, 0, 1);
        Check.same("price 1", x.worth(), 1);
        x.setLength(0, 0);
        Check.same("length 0", x.worth(), 0);
        for (int crew = 0; crew < 4; crew++) {
            x.setCrew(crew, 9, 99);
        }
        for (int task = 1; task < 24; task++) {
            x.addTask(20, 0);
        }
        x.setLength(0, 20);
        for (int task = 0; task < 24; task++) {
            for (int crew = 0; crew < 4; crew++) {
                x.setNeed(task, crew, 9);
            }
            x.finish(task, 0, 999);
        }
        Check.same("the most", x.worth(), 24 * 20 * 4 * 9 * 99);
        x.keep();
        Check.same("planned", x.planned(999), 1710720);
        Check.same("planned, all but one day", x.planned(998), 24 * (71280 * 714 / 715));
        Check.same("earned", x.earned(), 1710720);
        Check.sameDouble("pace", x.pace(999), 1.0);
    }

    private static void paceOfNothing() {
        Check.part("promise 41: 0 if planned is 0; not cut");
        SlipwayPlan x = daily(3, 1);
        x.setCrew(0, 9, 1);
        x.setNeed(0, 0, 1);
        x.setNeed(1, 0, 1);
        x.keep();
        x.finish(0, 0, 1);
        Check.sameDouble("earned 3, planned 0", x.pace(0), 0.0);
        Check.sameDouble("earned 3, planned 2", x.pace(1), 1.5);
        Check.sameDouble("earned 3, planned 3", x.pace(2), 1.0);
        Check.sameDouble("earned 3, planned 4", x.pace(3), 0.75);
        Check.sameDouble("up to 9999", x.pace(9999), 0.75);
        Check.argument("up to 10000", () -> x.pace(10000));
        Check.argument("up to -1", () -> x.pace(-1));
        x.reopen(0);
        Check.sameDouble("earned 0, planned 2", x.pace(1), 0.0);
        Check.sameDouble("earned 0, planned 0", x.pace(0), 0.0);
        x.finish(1, 5, 6);
        Check.sameDouble("earned 1, planned 3", x.pace(2), 1.0 / 3.0);
    }

    // ---- what would be

    private static void lastWithNoneAndMost() {
        Check.part("promise 42: lengths 0 to 20");
        SlipwayPlan x = daily(3, 2);
        x.link(0, 1, 0, 0);
        Check.same("0", x.lastWith(0, 0), 2);
        Check.same("20", x.lastWith(0, 20), 22);
        Check.same("as it is", x.lastWith(0, 3), 5);
        Check.same("the last task, 0", x.lastWith(1, 0), 3);
        Check.argument("-1", () -> x.lastWith(0, -1));
        Check.argument("21", () -> x.lastWith(0, 21));
        Check.index("task 2", () -> x.lastWith(2, 1));
        Check.same("it stays", x.last(), 5);
        x.finish(0, 0, 1);
        Check.same("of a done one", x.lastWith(0, 20), 3);
        SlipwayPlan y = daily(7);
        Check.same("the only one, 0", y.lastWith(0, 0), 0);
    }

    private static void levelledWithNoneAndMost() {
        Check.part("promise 43: sizes 0 to 9");
        SlipwayPlan x = daily(2, 2, 1);
        x.setCrew(0, 4, 0);
        x.setNeed(0, 0, 4);
        x.setNeed(1, 0, 5);
        int[] due = {1, 1, 1, 1, 2, 4, 4, 4, 4, 2};
        for (int size = 0; size < due.length; size++) {
            Check.same("size " + size, x.levelledWith(0, size), due[size]);
        }
        Check.same("of which none is needed", x.levelledWith(3, 0), 2);
        Check.argument("-1", () -> x.levelledWith(0, -1));
        Check.argument("10", () -> x.levelledWith(0, 10));
        Check.index("crew 4", () -> x.levelledWith(4, 0));
        Check.same("it stays", x.levelledLast(), 2);
        Check.same("the size stays", x.setCrew(0, 4, 0), 4);
    }

    private static void levelledWithoutTheOnlyOne() {
        Check.part("promise 44: the only link");
        SlipwayPlan x = daily(3, 2);
        Check.index("none", () -> x.levelledWithout(0));
        x.link(0, 1, 0, 0);
        Check.same("without it", x.levelledWithout(0), 3);
        Check.same("it stays", x.levelledLast(), 5);
        Check.same("there is one", x.links(), 1);
        Check.index("no second one", () -> x.levelledWithout(1));
        x.setNeed(0, 0, 1);
        x.setCrew(0, 0, 0);
        Check.same("what was stuck by it is not", x.levelledWithout(0), 2);
        Check.same("stuck, as it is there", x.levelledLast(), 0);
    }

    private static void levelledWithoutFirstAndLast() {
        Check.part("promise 44: the first of 40 links, and the last");
        SlipwayPlan x = daily(1, 1, 1);
        x.link(0, 1, 0, 9);
        for (int link = 1; link < 39; link++) {
            x.link(0, 1, 1, link % 9);
        }
        x.link(0, 2, 0, 15);
        Check.same("all of them", x.levelledLast(), 17);
        Check.same("without the first", x.levelledWithout(0), 17);
        Check.same("without the last", x.levelledWithout(39), 11);
        Check.index("no 40", () -> x.levelledWithout(40));
        Check.same("40 links still", x.links(), 40);
        Check.same("in their places: the first", x.heldBy(1), 0);
        Check.same("in their places: the last", x.heldBy(2), 39);
        x.drop(39);
        Check.same("without the first of 39", x.levelledWithout(0), 9);
        Check.same("without the last of 39", x.levelledWithout(38), 11);
    }

    private static void bestRuleOfEqualOnes() {
        Check.part("promise 45: of several the smallest");
        SlipwayPlan x = oneHanded(1);
        for (int rule = 0; rule < 4; rule++) {
            x.setRule(rule);
            Check.same("all the same, rule " + rule, x.bestRule(), 0);
        }
        SlipwayPlan y = oneHanded(2, 3, 9);
        y.setNeed(2, 0, 0);
        y.setTerms(2, 0, 1);
        y.link(1, 2, 0, 0);
        y.setTerms(0, 9, 0);
        // task 1 is ahead by late begin, room and length, task 0 by rank alone: lasts 12, 12, 14, 12
        Check.same("three the same", y.bestRule(), 0);
        y.setRule(2);
        Check.same("the one that is worse", y.levelledLast(), 14);
        Check.same("the others", y.setRule(0), 2);
        Check.same("the others", y.levelledLast(), 12);
    }

    private static void couldGrowNoneAndAll() {
        Check.part("promise 46: up to 20 in all");
        SlipwayPlan x = daily(20, 20, 19, 0);
        Check.same("of 20", x.couldGrow(1), 0);
        Check.same("of 19", x.couldGrow(2), 1);
        Check.same("of 0", x.couldGrow(3), 20);
        x.setTerms(0, 0, 50);
        Check.same("of 20, however far the last day is", x.couldGrow(1), 0);
        Check.same("of 19, however far the last day is", x.couldGrow(2), 1);
        Check.same("of 0, however far the last day is", x.couldGrow(3), 20);
        x.finish(3, 0, 0);
        Check.same("done, of 0", x.couldGrow(3), 20);
        x.finish(2, 0, 0);
        Check.same("done, of 19", x.couldGrow(2), 1);
        Check.index("task 4", () -> x.couldGrow(4));
    }

    private static void couldGrowUpToTheLastDay() {
        Check.part("promise 46: last() being the same");
        SlipwayPlan x = daily(10, 9);
        Check.same("the longest", x.couldGrow(0), 0);
        Check.same("a day shorter", x.couldGrow(1), 1);
        x.setTerms(1, 0, 1);
        Check.same("which ends with it", x.couldGrow(1), 0);
        SlipwayPlan y = weekly(4, 1);
        y.setTerms(1, 0, 7);
        Check.same("up to 8: over the week's end", y.couldGrow(0), 2);
        SlipwayPlan z = daily(0);
        Check.same("without a length, alone", z.couldGrow(0), 0);
        z.addTask(2, 0);
        z.setLength(0, 1);
        z.link(0, 1, 0, 0);
        z.link(0, 1, 0, 5);
        Check.same("what is behind it would be later", z.couldGrow(0), 0);
        z.drop(1);
        z.setTerms(1, 0, 3);
        Check.same("till what is behind it would be later", z.couldGrow(0), 2);
    }

    private static void digestWrapsAround() {
        Check.part("promise 47: wraps around as a 64-bit integer");
        // 6 numbers, 3 of each of 4 crews, 3 more, of an object without tasks all of them 0
        BigInteger empty = BigInteger.valueOf(2633).multiply(BigInteger.valueOf(31).pow(21));
        Check.holds("it is more than 64 bits", empty.bitLength() > 64);
        Check.same("without tasks", new SlipwayPlan().digest(), empty.longValue());
        SlipwayPlan x = daily(2);
        int[] one = {1, 0, 2, 1, 2, 0, 0, 2, 0, 2, 0, 0, 2, 0, -1, 0, 0, 0, 18, 0, 0, 18, 0, 0, 18, 0, 0, 18, 0, 0, 0, 0};
        BigInteger d = BigInteger.valueOf(2633);
        for (int v : one) {
            d = d.multiply(BigInteger.valueOf(31)).add(BigInteger.valueOf(v));
        }
        Check.same("one task of 2 days", x.digest(), d.longValue());
        x.setCrew(0, 0, 0);
        x.setNeed(0, 0, 1);
        int[] stuck = {1, 0, 2, 1, 0, 1, 0, 2, 0, 2, 0, -1, -1, -1, -1, 0, 2, 0, 0, 0, 0, 0, 0, 0, 0, 0, 0, 0, 0, 0, 0};
        d = BigInteger.valueOf(2633);
        for (int v : stuck) {
            d = d.multiply(BigInteger.valueOf(31)).add(BigInteger.valueOf(v));
        }
        Check.same("one that is stuck", x.digest(), d.longValue());
    }
}
